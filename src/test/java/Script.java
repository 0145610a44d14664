import java.util.ArrayList;
import java.util.List;
import java.util.regex.Matcher;
import java.util.regex.Pattern;

/**
 * Runs written calls on a new object each and compares the answers. A line is a call and its answer,
 * as in 'get(0, 3) 17', 'sort(0, 0) ok' or 'size(2) throws.RuntimeException'; '5 * ' before it calls
 * five times. Short names of exceptions: N, K, S, F and those of SHORT. Behind each call that is to
 * throw, it is also checked that nothing has changed.
 */
final class Script {
    private static final Pattern LINE = Pattern.compile("(?:(\\d+) \\* )?(\\w+)\\(([^)]*)\\) (\\S+)");
    private static final String[] SHORT = {
        "N", "IndexOutOfBoundsException",
        "K", "UnsupportedOperationException",
        "S", "RuntimeException",
        "F", "IllegalStateException",
        "ARG", "IllegalArgumentException",
        "NONE", "NoSuchElementException",
    };
    private static int wrong = 0;
    private static int right = 0;

    private Script() {
    }

    static void check(String title, String calls) {
        ContainerKit kit = new ContainerKit();
        List<Call> before = new ArrayList<>();
        for (String line : calls.split("\n")) {
            if (!line.isBlank()) {
                checkLine(kit, before, title, line.trim());
            }
        }
    }

    private static void checkLine(ContainerKit kit, List<Call> before, String title, String line) {
        Matcher parts = parsed(line);
        int times = parts.group(1) == null ? 1 : Integer.parseInt(parts.group(1));
        Call call = new Call(parts.group(2), numbers(parts.group(3)));
        String due = whole(parts.group(4));
        for (int i = 0; i < times; i++) {
            compare(title + ": " + line, call.answer(kit), due);
            if (due.startsWith("throws")) {
                Refusals.check(title, before, call);
            }
            before.add(call);
        }
    }

    /** What the last one of these calls answers; only that is of interest, and nothing is checked. */
    static String lastAnswer(String calls) {
        ContainerKit kit = new ContainerKit();
        String answer = "";
        for (String line : calls.split("\n")) {
            Matcher parts = parsed(line.trim());
            answer = Calls.answer(kit, parts.group(2), numbers(parts.group(3)));
        }
        return answer;
    }

    private static Matcher parsed(String line) {
        Matcher parts = LINE.matcher(line);
        if (!parts.matches()) {
            throw new IllegalArgumentException("not a call with its answer: " + line);
        }
        return parts;
    }

    static void compare(String what, String got, String due) {
        if (got.equals(due)) {
            right++;
        } else {
            wrong++;
            System.out.println(what + " -- answered " + got + ", due is " + due);
        }
    }

    private static int[] numbers(String text) {
        if (text.isBlank()) {
            return new int[0];
        }
        String[] parts = text.split(",");
        int[] result = new int[parts.length];
        for (int i = 0; i < parts.length; i++) {
            result[i] = number(parts[i].trim());
        }
        return result;
    }

    private static int number(String text) {
        return switch (text) {
            case "true" -> 1;
            case "false" -> 0;
            case "MIN" -> Integer.MIN_VALUE;
            case "MAX" -> Integer.MAX_VALUE;
            default -> Integer.parseInt(text);
        };
    }

    private static String whole(String answer) {
        for (int i = 0; i < SHORT.length; i += 2) {
            if (answer.equals(SHORT[i])) {
                return "throws." + SHORT[i + 1];
            }
        }
        return answer.equals("MIN") || answer.equals("MAX") ? String.valueOf(number(answer)) : answer;
    }

    /** The short name of an exception that has one. */
    static String shortName(String exception) {
        for (int i = 0; i < SHORT.length; i += 2) {
            if (exception.equals(SHORT[i + 1])) {
                return SHORT[i];
            }
        }
        return exception;
    }

    static void end() {
        System.out.println(right + " answers as due, " + wrong + " not");
        if (wrong != 0 || right == 0) {
            System.exit(1);
        }
    }
}
