import java.util.ArrayList;
import java.util.Arrays;
import java.util.List;
import java.util.Map;
import java.util.Random;
import java.util.TreeMap;

/** Mixed runs of 512 calls, the same on the program and on the model. The seeds are fixed. */
public final class ModelTest {
    private static final int RUNS = 3000;
    private static final int CALLS = 512;
    private static final String[] NAMES = {
        "create", "view", "view", "kind", "size", "size", "get", "get", "set", "insert", "insert", "insert",
        "insert", "remove", "sort", "put", "put", "put", "merge", "merge", "has", "value", "value", "drop",
        "near", "near", "room", "bucket", "sift", "same", "same", "open", "open", "next", "next", "next",
        "left", "left", "erase", "assign", "plant", "plant",
    };
    private static final int[] EDGES = {
        Integer.MIN_VALUE, Integer.MIN_VALUE + 1, -65537, -65536, -1, 0, 65536, 65537, Integer.MAX_VALUE,
    };
    private static final Map<String, Integer> SEEN = new TreeMap<>();

    public static void main(String[] args) {
        for (int seed = 0; seed < RUNS; seed++) {
            run(new Random(seed), seed);
        }
        everyAnswerWasSeen();
        Script.end();
    }

    private static void run(Random random, int seed) {
        ContainerKit kit = new ContainerKit();
        Model model = new Model();
        // Few containers in some runs, so that those there are come to be full; few keys in others.
        int boxes = 1 + random.nextInt(10);
        int span = random.nextBoolean() ? 10 : 40;
        List<String> told = new ArrayList<>();
        for (int call = 0; call < CALLS; call++) {
            String name = call < boxes && random.nextInt(4) > 0 ? "create" : NAMES[random.nextInt(NAMES.length)];
            if (name.equals("create") && call >= boxes && random.nextInt(8) > 0) {
                name = "insert";
            }
            int[] arguments = arguments(random, name, box(random, model, name, boxes), span);
            String due = model.answer(name, arguments);
            String got = Calls.answer(kit, name, arguments);
            told.add(name + Arrays.toString(arguments) + " " + got);
            note(name, due);
            Script.compare("seed " + seed + ", call " + call + ", " + name + Arrays.toString(arguments), got, due);
            if (!got.equals(due)) {
                System.out.println(String.join("\n", told));
                return;
            }
        }
    }

    /** Mostly one that the call is for, sometimes any, rarely one that is not there. */
    private static int box(Random random, Model model, String name, int boxes) {
        if (random.nextInt(40) == 0) {
            return random.nextInt(14) - 2;
        }
        List<Integer> fitting = model.ofKinds(kindsFor(name));
        return random.nextInt(8) == 0 || fitting.isEmpty() ? random.nextInt(boxes)
            : fitting.get(random.nextInt(fitting.size()));
    }

    private static String kindsFor(String name) {
        return switch (name) {
            case "view" -> "01467";
            case "get", "set", "sort" -> "016";
            case "insert", "remove" -> "0156";
            case "put", "merge", "has", "value", "drop" -> "2347";
            case "near" -> "47";
            case "room" -> "023";
            case "bucket" -> "23";
            case "sift", "open" -> "0123467";
            default -> "01234567";
        };
    }

    private static int[] arguments(Random random, String name, int box, int span) {
        int iterator = random.nextInt(40) == 0 ? random.nextInt(8) - 2 : random.nextInt(random.nextBoolean() ? 1 : 4);
        int number = random.nextInt(20) == 0 ? EDGES[random.nextInt(EDGES.length)] : random.nextInt(span) - 4;
        int other = random.nextInt(20) == 0 ? EDGES[random.nextInt(EDGES.length)] : random.nextInt(span) - 4;
        int place = random.nextInt(random.nextBoolean() ? 4 : 27) - (random.nextInt(10) == 0 ? 1 : 0);
        int how = random.nextInt(10) == 0 ? random.nextInt(9) - 3 : random.nextInt(4);
        return switch (name) {
            case "create" -> new int[] {random.nextInt(20) == 0 ? random.nextInt(10) - 2 : random.nextInt(6)};
            case "view" -> random.nextBoolean() ? new int[] {box, place, place + random.nextInt(9)}
                : new int[] {box, number, other};
            case "kind", "size", "room" -> new int[] {box};
            case "get", "remove" -> new int[] {box, place};
            case "set", "insert" -> new int[] {box, place, number};
            case "sort" -> new int[] {box, how};
            case "put", "merge" -> new int[] {box, number, other};
            case "has", "value", "drop", "bucket" -> new int[] {box, number};
            case "near" -> new int[] {box, number, how};
            case "sift" -> new int[] {box, random.nextInt(10) == 0 ? number : 3 + random.nextInt(9), how};
            case "same" -> new int[] {box, random.nextInt(Math.max(1, box + 1))};
            case "open" -> new int[] {iterator, box};
            case "next" -> new int[] {iterator, random.nextInt(3)};
            case "left", "erase" -> new int[] {iterator};
            case "assign", "plant" -> new int[] {iterator, number};
            default -> throw new AssertionError(name);
        };
    }

    private static void note(String name, String answer) {
        SEEN.merge(name + " " + (answer.startsWith("throws") ? answer : "answers"), 1, Integer::sum);
    }

    /** A run that never comes to an exception tests nothing of it. */
    private static void everyAnswerWasSeen() {
        for (String name : NAMES) {
            Script.compare(name + " answered", "" + SEEN.containsKey(name + " answers"), "true");
            for (Class<?> thrown : Calls.named(name).getExceptionTypes()) {
                String what = name + " throws." + thrown.getSimpleName();
                Script.compare(what, "" + SEEN.containsKey(what), "true");
            }
        }
    }
}
