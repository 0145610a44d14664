import java.lang.reflect.Constructor;
import java.lang.reflect.Field;
import java.lang.reflect.Method;
import java.lang.reflect.Modifier;
import java.util.ArrayList;
import java.util.Arrays;
import java.util.List;
import java.util.Random;
import java.util.TreeSet;

/** The public face is the document's, and no call ever throws what it does not name. */
public final class FaceTest {
    private static final String[] FACE = {
        "int create(int) ARG F",
        "int view(int, int, int) N K ARG F S",
        "int kind(int) N",
        "int size(int) N S",
        "int get(int, int) N K NONE S",
        "int set(int, int, int) N K NONE S",
        "void insert(int, int, int) N K NONE F S",
        "int remove(int, int) N K NONE S",
        "void sort(int, int) N K ARG S",
        "boolean put(int, int, int) N K ARG F",
        "int merge(int, int, int) N K ARG F",
        "boolean has(int, int) N K",
        "int value(int, int) N K NONE",
        "int drop(int, int) N K NONE",
        "int near(int, int, int) N K ARG NONE",
        "int room(int) N K",
        "int bucket(int, int) N K",
        "int sift(int, int, int) N K ARG S",
        "boolean same(int, int) N S",
        "void open(int, int) N K S",
        "int next(int, boolean) N K NONE S",
        "int left(int) N S",
        "void erase(int) N ARG S",
        "int assign(int, int) N ARG S",
        "void plant(int, int) N K F S",
    };
    private static final int[] WILD = {
        Integer.MIN_VALUE, Integer.MIN_VALUE + 1, -65536, -25, -1, 24, 25, 65536,
        Integer.MAX_VALUE - 1, Integer.MAX_VALUE,
    };

    public static void main(String[] args) {
        methodsAreTheDocuments();
        nothingElseIsVisible();
        nothingElseIsThrown();
        Script.end();
    }

    private static void methodsAreTheDocuments() {
        TreeSet<String> got = new TreeSet<>();
        for (Method method : ContainerKit.class.getDeclaredMethods()) {
            if (!Modifier.isPrivate(method.getModifiers())) {
                got.add(described(method));
            }
        }
        Script.compare("the methods", String.join("; ", got), String.join("; ", new TreeSet<>(Arrays.asList(FACE))));
    }

    private static String described(Method method) {
        List<String> types = new ArrayList<>();
        for (Class<?> type : method.getParameterTypes()) {
            types.add(type.getSimpleName());
        }
        StringBuilder text = new StringBuilder(method.getReturnType().getSimpleName());
        text.append(' ').append(method.getName()).append('(').append(String.join(", ", types)).append(')');
        for (Class<?> thrown : method.getExceptionTypes()) {
            text.append(' ').append(Script.shortName(thrown.getSimpleName()));
        }
        return text.toString();
    }

    private static void nothingElseIsVisible() {
        for (Field field : ContainerKit.class.getDeclaredFields()) {
            Script.compare(field + " is private", "" + Modifier.isPrivate(field.getModifiers()), "true");
        }
        Constructor<?>[] constructors = ContainerKit.class.getDeclaredConstructors();
        Script.compare("constructors", Arrays.toString(constructors), "[public ContainerKit()]");
        int flags = ContainerKit.class.getModifiers();
        Script.compare("the class", Modifier.toString(flags), "public final");
    }

    /** Far beyond 512 calls too, where answers are free but the machine still may not throw. */
    private static void nothingElseIsThrown() {
        Random random = new Random(7);
        for (int run = 0; run < 200; run++) {
            ContainerKit kit = new ContainerKit();
            for (int call = 0; call < 3000; call++) {
                String name = nameIn(FACE[random.nextInt(FACE.length)]);
                int[] arguments = new int[Calls.named(name).getParameterCount()];
                for (int i = 0; i < arguments.length; i++) {
                    arguments[i] = wildOrTame(random, i);
                }
                String got = Calls.answer(kit, name, arguments);
                if (got.startsWith("MACHINE")) {
                    Script.compare(name + Arrays.toString(arguments), got, "an exception of the face");
                }
            }
        }
    }

    private static int wildOrTame(Random random, int argument) {
        if (random.nextInt(12) == 0) {
            return WILD[random.nextInt(WILD.length)];
        }
        return argument == 0 ? random.nextInt(10) : random.nextInt(12) - 1;
    }

    private static String nameIn(String described) {
        return described.substring(described.indexOf(' ') + 1, described.indexOf('('));
    }
}
