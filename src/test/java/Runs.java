/** Pieces of written runs that many tests have in common. */
final class Runs {
    private Runs() {
    }

    /** A new list or heap with these numbers. */
    static String list(int container, int kind, int... numbers) {
        StringBuilder calls = new StringBuilder("create(" + kind + ") " + container + "\n");
        for (int i = 0; i < numbers.length; i++) {
            calls.append("insert(" + container + ", " + i + ", " + numbers[i] + ") ok\n");
        }
        return calls.toString();
    }

    /** A new map with these keys, the value of each being ten times it. */
    static String map(int container, int kind, int... keys) {
        StringBuilder calls = new StringBuilder("create(" + kind + ") " + container + "\n");
        for (int key : keys) {
            calls.append("put(" + container + ", " + key + ", " + key * 10 + ") true\n");
        }
        return calls.toString();
    }

    static int[] upTo(int end) {
        int[] numbers = new int[end];
        for (int i = 0; i < end; i++) {
            numbers[i] = i;
        }
        return numbers;
    }

    /** A list has these numbers and no others. */
    static String holds(int list, int... numbers) {
        StringBuilder calls = new StringBuilder("size(" + list + ") " + numbers.length + "\n");
        for (int i = 0; i < numbers.length; i++) {
            calls.append("get(" + list + ", " + i + ") " + numbers[i] + "\n");
        }
        return calls.toString();
    }

    /** Iterator 0 comes over these numbers or keys in this order, and over no others. */
    static String walks(int container, int... numbers) {
        StringBuilder calls = new StringBuilder("open(0, " + container + ") ok\n");
        for (int number : numbers) {
            calls.append("next(0, true) " + number + "\n");
        }
        return calls.append("next(0, true) NONE\n").toString();
    }
}
