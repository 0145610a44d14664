/** The boundary cases of promises 11 to 18, each sentence by itself. The titles quote it. */
public final class MapBoundaryTest {
    public static void main(String[] args) {
        putNew();
        putOutside();
        putWhenFull();
        mergeWraps();
        mergeOutside();
        mergeWhenFull();
        has();
        value();
        drop();
        dropOfFirstAndLast();
        nearOfTree();
        nearOfRange();
        nearAtTheEnds();
        nearRefused();
        room();
        bucketCounts();
        bucketOfRecent();
        Script.end();
    }

    /** The calls on map M with the keys 1, 2, 3 (values 10, 20, 30): of each kind, and a RANGE of a RANGE. */
    private static void onEach(String title, String calls) {
        String range = Runs.map(0, 4, 0, 1, 2, 3, 9) + "view(0, 1, 8) 1\n";
        for (int kind = 2; kind <= 4; kind++) {
            Script.check(title + ": kind " + kind, Runs.map(0, kind, 1, 2, 3) + calls.replaceAll("\\bM\\b", "0"));
        }
        Script.check(title + ": RANGE", range + calls.replaceAll("\\bM\\b", "1"));
        Script.check(title + ": RANGE of a RANGE", range + "view(1, 0, 5) 2\n" + calls.replaceAll("\\bM\\b", "2"));
    }

    private static void putNew() {
        onEach("promise 11: whether it is new: a new one, then not", "put(M, 4, 7) true\nput(M, 4, 8) false\n"
            + "value(M, 4) 8\nsize(M) 4\n");
        onEach("promise 11: whether it is new: those that are there", "put(M, 1, 7) false\nput(M, 3, 8) false\n"
            + "value(M, 1) 7\nvalue(M, 2) 20\nvalue(M, 3) 8\nsize(M) 3\n");
        onEach("promise 11: whether it is new: one that went is", "drop(M, 2) 20\nput(M, 2, 5) true\nvalue(M, 2) 5\n");
        for (int kind = 2; kind <= 4; kind++) {
            Script.check("promise 11: into an empty map, the key 0 with the value 0, kind " + kind, "create(" + kind + ") 0\n"
                + "has(0, 0) false\nput(0, 0, 0) true\nput(0, 0, 0) false\nhas(0, 0) true\nsize(0) 1\n");
            Script.check("promise 11: the least and the greatest key and value, kind " + kind, "create(" + kind + ") 0\n"
                + "put(0, MIN, MAX) true\nput(0, MAX, MIN) true\nvalue(0, MIN) MAX\nvalue(0, MAX) MIN\nsize(0) 2\n");
        }
    }

    private static void putOutside() {
        String range = Runs.map(0, 4, 4, 5, 6) + "view(0, 5, 8) 1\n";
        Script.check("promise 11: IllegalArgumentException if it is outside of a RANGE: the first beyond each end", range + """
            put(1, 4, 7) ARG
            put(1, 9, 7) ARG
            put(1, MIN, 7) ARG
            put(1, MAX, 7) ARG
            put(1, 5, 7) false
            put(1, 8, 7) true
            value(0, 4) 40
            has(0, 9) false
            """);
        Script.check("promise 11: outside of a RANGE of a RANGE, though within its own ends", range + """
            view(1, 0, 20) 2
            put(2, 4, 7) ARG
            put(2, 9, 7) ARG
            put(2, 5, 7) false
            put(2, 8, 7) true
            view(1, 6, 7) 3
            put(3, 5, 7) ARG
            put(3, 8, 7) ARG
            put(3, 7, 7) true
            """);
        Script.check("promise 11: outside of a RANGE: not of a TREE, TABLE or RECENT", range + """
            put(0, 9, 7) true
            put(0, -9, 7) true
            """);
    }

    private static void putWhenFull() {
        Script.check("promise 11: F (if it is new): a TABLE of 24", Runs.map(0, 2, Runs.upTo(23)) + """
            put(0, 23, 1) true
            put(0, 24, 1) F
            put(0, -1, 1) F
            put(0, 0, 1) false
            put(0, 23, 2) false
            size(0) 24
            """);
        Script.check("promise 11: F (if it is new): a TREE of 24, and a RANGE that shows none of them",
            Runs.map(0, 4, Runs.upTo(23)) + """
            view(0, 30, 40) 1
            put(1, 30, 1) true
            put(1, 31, 1) F
            put(0, 23, 1) F
            put(1, 30, 2) false
            put(0, 22, 1) false
            drop(0, 0) 0
            put(1, 40, 1) true
            put(1, 35, 1) F
            """);
        Script.check("promise 11: (.. a RECENT is never full)", Runs.map(0, 3, Runs.upTo(26)) + """
            size(0) 6
            put(0, 26, 1) true
            put(0, 0, 1) true
            size(0) 6
            """);
    }

    private static void mergeWraps() {
        onEach("promise 12: its value becomes the sum of both: the value that it has then", "merge(M, 1, 5) 15\n"
            + "merge(M, 3, -30) 0\nvalue(M, 1) 15\nvalue(M, 3) 0\nvalue(M, 2) 20\nsize(M) 3\n");
        onEach("promise 12: if the key is not there, it comes with the value", "merge(M, 4, 5) 5\nmerge(M, 4, 5) 10\n"
            + "size(M) 4\n");
        onEach("promise 12: (wraps): over the greatest", "put(M, 2, MAX) false\nmerge(M, 2, 1) MIN\nvalue(M, 2) MIN\n");
        onEach("promise 12: (wraps): under the least", "put(M, 2, MIN) false\nmerge(M, 2, -1) MAX\nvalue(M, 2) MAX\n");
        onEach("promise 12: (wraps): just not", "put(M, 2, 2147483646) false\nmerge(M, 2, 1) MAX\n"
            + "put(M, 2, -2147483647) false\nmerge(M, 2, -1) MIN\n");
        onEach("promise 12: (wraps): the greatest twice, the least twice", "put(M, 2, MAX) false\nmerge(M, 2, MAX) -2\n"
            + "put(M, 2, MIN) false\nmerge(M, 2, MIN) 0\n");
        onEach("promise 12: a key that went has no value left to add to", "drop(M, 2) 20\nmerge(M, 2, 5) 5\n");
    }

    private static void mergeOutside() {
        Script.check("promise 12: Likewise .. IllegalArgumentException: the first beyond each end",
            Runs.map(0, 4, 4, 5, 9) + """
            view(0, 5, 8) 1
            merge(1, 4, 7) ARG
            merge(1, 9, 7) ARG
            merge(1, MIN, 7) ARG
            merge(1, MAX, 7) ARG
            merge(1, 5, 7) 57
            merge(1, 8, 7) 7
            value(0, 4) 40
            value(0, 9) 90
            """);
    }

    private static void mergeWhenFull() {
        Script.check("promise 12: Likewise .. F: if it is new", Runs.map(0, 2, Runs.upTo(23)) + """
            merge(0, 23, 1) 1
            merge(0, 24, 1) F
            merge(0, 23, 1) 2
            merge(0, 0, 1) 1
            size(0) 24
            """);
        Script.check("promise 12: Likewise .. F: through a RANGE", Runs.map(0, 4, Runs.upTo(24)) + """
            view(0, 20, 40) 1
            merge(1, 24, 1) F
            merge(1, 23, 1) 231
            """);
        Script.check("promise 12: Likewise: a RECENT is never full", Runs.map(0, 3, Runs.upTo(25)) + """
            merge(0, 30, 1) 1
            merge(0, 0, 1) 1
            size(0) 6
            """);
    }

    private static void has() {
        onEach("promise 13: Whether a map has a key: the first, the last and those beside them",
            "has(M, 1) true\nhas(M, 3) true\nhas(M, 0) false\nhas(M, 4) false\nhas(M, MIN) false\nhas(M, MAX) false\n");
        onEach("promise 13: not a value", "has(M, 10) false\nhas(M, 20) false\n");
        Script.check("promise 13: an empty map has none", """
            create(2) 0
            create(3) 1
            create(4) 2
            view(2, MIN, MAX) 3
            has(0, 0) false
            has(1, 0) false
            has(2, 0) false
            has(3, 0) false
            """);
        Script.check("promise 13: a RANGE has none beyond its ends", Runs.map(0, 4, 1, 2, 3, 4) + """
            view(0, 2, 3) 1
            has(1, 1) false
            has(1, 2) true
            has(1, 3) true
            has(1, 4) false
            """);
    }

    private static void value() {
        onEach("promise 14: The value of a key: the first and the last", "value(M, 1) 10\nvalue(M, 3) 30\nvalue(M, 2) 20\n");
        onEach("promise 14: NoSuchElementException if it is not there: beside the first and the last",
            "value(M, 0) NONE\nvalue(M, 4) NONE\nvalue(M, MIN) NONE\nvalue(M, MAX) NONE\n");
        onEach("promise 14: NoSuchElementException if it is not there: it went", "drop(M, 2) 20\nvalue(M, 2) NONE\n");
        Script.check("promise 14: NoSuchElementException if it is not there: an empty map", """
            create(2) 0
            create(3) 1
            create(4) 2
            value(0, 0) NONE
            value(1, 0) NONE
            value(2, 0) NONE
            """);
        Script.check("promise 14: NoSuchElementException if it is not there: it lies just beyond a RANGE",
            Runs.map(0, 4, 1, 2, 3, 4) + """
            view(0, 2, 3) 1
            value(1, 1) NONE
            value(1, 4) NONE
            value(1, 2) 20
            value(1, 3) 30
            """);
    }

    private static void drop() {
        onEach("promise 15: NoSuchElementException if it is not there", "drop(M, 0) NONE\ndrop(M, 4) NONE\n"
            + "drop(M, MIN) NONE\ndrop(M, MAX) NONE\nsize(M) 3\n");
        onEach("promise 15: NoSuchElementException if it is not there: it went already", "drop(M, 2) 20\ndrop(M, 2) NONE\n");
        onEach("promise 15: A key goes: until there is none", "drop(M, 2) 20\ndrop(M, 1) 10\ndrop(M, 3) 30\nsize(M) 0\n"
            + "drop(M, 3) NONE\n");
        Script.check("promise 15: if it is not there: it lies just beyond a RANGE", Runs.map(0, 4, 1, 2, 3, 4) + """
            view(0, 2, 3) 1
            drop(1, 1) NONE
            drop(1, 4) NONE
            drop(1, 3) 30
            size(0) 3
            """);
        Script.check("promise 15: if it is not there: an empty map", """
            create(2) 0
            create(3) 1
            create(4) 2
            drop(0, 0) NONE
            drop(1, 0) NONE
            drop(2, 0) NONE
            """);
    }

    private static void dropOfFirstAndLast() {
        onEach("promise 15: A key goes: its value: the first", "drop(M, 1) 10\nhas(M, 1) false\n" + walks(2, 3));
        onEach("promise 15: A key goes: its value: in between", "drop(M, 2) 20\nhas(M, 2) false\n" + walks(1, 3));
        onEach("promise 15: A key goes: its value: the last", "drop(M, 3) 30\nhas(M, 3) false\n" + walks(1, 2));
        Script.check("promise 15: of a full map", Runs.map(0, 2, Runs.upTo(24)) + """
            drop(0, 23) 230
            drop(0, 0) 0
            size(0) 22
            value(0, 22) 220
            value(0, 1) 10
            room(0) 32
            """);
    }

    private static String walks(int... keys) {
        return Runs.walks(0, keys).replace("open(0, 0)", "open(0, M)");
    }

    private static void nearOfTree() {
        String tree = Runs.map(0, 4, -5, 0, 5);
        Script.check("promise 16: the greatest key below one (how = 0): at, beside and between keys", tree + """
            near(0, -5, 0) NONE
            near(0, -4, 0) -5
            near(0, 0, 0) -5
            near(0, 1, 0) 0
            near(0, 5, 0) 0
            near(0, 6, 0) 5
            near(0, -6, 0) NONE
            """);
        Script.check("promise 16: or not above it (1)", tree + """
            near(0, -6, 1) NONE
            near(0, -5, 1) -5
            near(0, -1, 1) -5
            near(0, 0, 1) 0
            near(0, 4, 1) 0
            near(0, 5, 1) 5
            near(0, 6, 1) 5
            """);
        Script.check("promise 16: the least one not below it (2)", tree + """
            near(0, -6, 2) -5
            near(0, -5, 2) -5
            near(0, -4, 2) 0
            near(0, 0, 2) 0
            near(0, 1, 2) 5
            near(0, 5, 2) 5
            near(0, 6, 2) NONE
            """);
        Script.check("promise 16: or above it (3)", tree + """
            near(0, -6, 3) -5
            near(0, -5, 3) 0
            near(0, -1, 3) 0
            near(0, 0, 3) 5
            near(0, 4, 3) 5
            near(0, 5, 3) NONE
            near(0, 6, 3) NONE
            """);
    }

    private static void nearOfRange() {
        String range = Runs.map(0, 4, 1, 3, 5, 7, 9) + "view(0, 3, 7) 1\n";
        Script.check("promise 16: Of a .. RANGE: keys beyond its ends are none, below", range + """
            near(1, 3, 0) NONE
            near(1, 2, 1) NONE
            near(1, 1, 1) NONE
            near(1, 3, 1) 3
            near(1, 4, 0) 3
            near(1, 0, 2) 3
            near(1, 1, 2) 3
            near(1, 1, 3) 3
            near(1, 3, 3) 5
            near(1, MIN, 2) 3
            near(1, MIN, 3) 3
            """);
        Script.check("promise 16: Of a .. RANGE: keys beyond its ends are none, above", range + """
            near(1, 7, 3) NONE
            near(1, 8, 2) NONE
            near(1, 9, 2) NONE
            near(1, 7, 2) 7
            near(1, 6, 3) 7
            near(1, 10, 0) 7
            near(1, 9, 1) 7
            near(1, 9, 0) 7
            near(1, 7, 0) 5
            near(1, MAX, 1) 7
            near(1, MAX, 0) 7
            """);
        Script.check("promise 16: Of a RANGE of a RANGE, and of one that shows no key", range + """
            view(1, 4, 20) 2
            near(2, 5, 0) NONE
            near(2, 0, 2) 5
            near(2, 20, 1) 7
            view(1, 4, 4) 3
            near(3, 4, 0) NONE
            near(3, 4, 1) NONE
            near(3, 4, 2) NONE
            near(3, 4, 3) NONE
            """);
    }

    private static void nearAtTheEnds() {
        Script.check("promise 16: the least and the greatest key there can be", """
            create(4) 0
            put(0, MIN, 0) true
            put(0, MAX, 0) true
            near(0, MIN, 0) NONE
            near(0, MIN, 1) MIN
            near(0, MIN, 2) MIN
            near(0, MIN, 3) MAX
            near(0, MAX, 0) MIN
            near(0, MAX, 1) MAX
            near(0, MAX, 2) MAX
            near(0, MAX, 3) NONE
            near(0, 0, 0) MIN
            near(0, 0, 3) MAX
            """);
        Script.check("promise 16: NoSuchElementException if there is none such: of an empty one", """
            create(4) 0
            near(0, 0, 0) NONE
            near(0, 0, 1) NONE
            near(0, 0, 2) NONE
            near(0, 0, 3) NONE
            """);
    }

    private static void nearRefused() {
        for (String how : new String[] {"-1", "4", "5", "MIN", "MAX"}) {
            Script.check("promise 16: IllegalArgumentException if there is no such how", Runs.map(0, 4, 1, 2, 3)
                + "view(0, 1, 2) 1\nnear(0, 2, " + how + ") ARG\nnear(1, 2, " + how + ") ARG\n");
            Script.check("promise 16: no such how before none such", "create(4) 0\nnear(0, 2, " + how + ") ARG\n");
        }
    }

    private static void room() {
        Script.check("promise 17: The room of a ROW, the buckets of a TABLE or RECENT: of empty ones", """
            create(0) 0
            create(2) 1
            create(3) 2
            room(0) 4
            room(1) 4
            room(2) 4
            """);
        Script.check("promise 17: of full ones", Runs.list(0, 0, Runs.upTo(24)) + Runs.map(1, 2, Runs.upTo(24))
            + Runs.map(2, 3, Runs.upTo(24)) + "room(0) 28\nroom(1) 32\nroom(2) 16\n");
        Script.check("promise 17: K: a PART of a ROW has none, and a stale one is refused alike", """
            create(0) 0
            view(0, 0, 0) 1
            room(1) K
            insert(0, 0, 1) ok
            room(1) K
            """);
    }

    private static void bucketCounts() {
        Script.check("promise 18: How many keys .. lie in the bucket: none", """
            create(2) 0
            create(3) 1
            bucket(0, 0) 0
            bucket(0, -1) 0
            bucket(1, MAX) 0
            """);
        Script.check("promise 18: in which a key lies or would lie", """
            create(2) 0
            put(0, 4, 0) true
            bucket(0, 4) 1
            bucket(0, 0) 1
            bucket(0, 8) 1
            bucket(0, 1) 0
            """);
        Script.check("promise 18: How many keys: all of them in one", """
            create(2) 0
            put(0, 0, 0) true
            put(0, 32, 0) true
            put(0, 64, 0) true
            put(0, 96, 0) true
            put(0, 128, 0) true
            put(0, 160, 0) true
            put(0, 192, 0) true
            room(0) 16
            bucket(0, 16) 7
            bucket(0, 1) 0
            """);
        Script.check("promise 18: of a full TABLE: one key in each of 24 buckets of 32", Runs.map(0, 2, Runs.upTo(24)) + """
            bucket(0, 0) 1
            bucket(0, 23) 1
            bucket(0, 24) 0
            bucket(0, 31) 0
            bucket(0, 32) 1
            bucket(0, 55) 1
            bucket(0, 56) 0
            """);
        Script.check("promise 18: a key that went lies in none", """
            create(2) 0
            put(0, 1, 0) true
            put(0, 5, 0) true
            drop(0, 1) 0
            bucket(0, 1) 1
            drop(0, 5) 0
            bucket(0, 5) 0
            """);
    }

    private static void bucketOfRecent() {
        Script.check("promise 18: of a RECENT: the one that went for the seventh lies in none", """
            create(3) 0
            put(0, 0, 0) true
            put(0, 16, 0) true
            put(0, 32, 0) true
            put(0, 48, 0) true
            put(0, 64, 0) true
            put(0, 80, 0) true
            room(0) 8
            bucket(0, 8) 6
            put(0, 96, 0) true
            room(0) 16
            bucket(0, 0) 6
            put(0, 1, 0) true
            bucket(0, 0) 5
            bucket(0, 17) 1
            """);
    }
}
