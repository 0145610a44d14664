/** The boundary cases of promises 1 to 5, 19 and 20, each sentence by itself. The titles quote it. */
public final class ContainerBoundaryTest {
    public static void main(String[] args) {
        newObject();
        create();
        viewOfListEnds();
        viewOfListRefused();
        viewOfTreeEnds();
        viewOfRange();
        viewAsTheTenth();
        kind();
        size();
        siftModulo();
        siftEachForItself();
        siftRest();
        siftRefused();
        sameLists();
        sameMaps();
        sameOthers();
        Script.end();
    }

    private static void newObject() {
        for (int number = 0; number < 10; number++) {
            Script.check("promise 1: No containers", "kind(" + number + ") N\n");
        }
        for (int iterator = 0; iterator < 4; iterator++) {
            Script.check("promise 1: no iterators are open", "create(0) 0\nleft(" + iterator + ") N\n");
        }
        Script.check("promise 1: the first container is number 0, of a view too", """
            view(0, 0, 0) N
            create(4) 0
            view(0, 0, 0) 1
            """);
    }

    private static void create() {
        for (int kind = 0; kind <= 5; kind++) {
            Script.check("promise 2: A new empty container: its number; the kinds 0 .. 5",
                "create(" + kind + ") 0\nkind(0) " + kind + "\nsize(0) 0\ncreate(" + kind + ") 1\nsize(1) 0\n");
        }
        for (String kind : new String[] {"-1", "6", "7", "8", "MIN", "MAX"}) {
            Script.check("promise 2: IllegalArgumentException if the kind is not 0 .. 5",
                "create(" + kind + ") ARG\nkind(0) N\ncreate(0) 0\n");
        }
        Script.check("promise 2: a refused one takes no number", """
            create(0) 0
            create(6) ARG
            create(-1) ARG
            create(1) 1
            """);
        for (int kind = 0; kind <= 5; kind++) {
            Script.check("promise 2: IllegalStateException if there are 10",
                ten() + "create(" + kind + ") F\ncreate(6) ARG\ncreate(-1) ARG\n");
        }
        Script.check("promise 2: containers are empty each for itself", """
            create(0) 0
            create(0) 1
            insert(0, 0, 5) ok
            size(1) 0
            create(0) 2
            size(2) 0
            """);
    }

    private static String ten() {
        StringBuilder calls = new StringBuilder();
        for (int number = 0; number < 10; number++) {
            calls.append("create(0) " + number + "\n");
        }
        return calls.toString();
    }

    private static void viewOfListEnds() {
        Script.check("promise 3: The places from .. to - 1: all of them", Runs.list(0, 0, 1, 2, 3)
            + "view(0, 0, 3) 1\n" + Runs.holds(1, 1, 2, 3));
        Script.check("promise 3: The places from .. to - 1: one of them", Runs.list(0, 1, 1, 2, 3)
            + "view(0, 1, 2) 1\n" + Runs.holds(1, 2) + "get(1, 1) NONE\nget(1, -1) NONE\n");
        for (int place = 0; place <= 3; place++) {
            Script.check("promise 3: from <= to: none of them, at any place up to the size",
                Runs.list(0, 0, 1, 2, 3) + "view(0, " + place + ", " + place + ") 1\nsize(1) 0\ninsert(1, 0, 9) ok\n"
                + "get(0, " + place + ") 9\n");
        }
        Script.check("promise 3: of an empty list", """
            create(1) 0
            view(0, 0, 0) 1
            view(1, 0, 0) 2
            size(2) 0
            """);
        Script.check("promise 3: of a full list", Runs.list(0, 0, Runs.upTo(24)) + """
            view(0, 0, 24) 1
            view(0, 24, 24) 2
            view(0, 0, 25) ARG
            size(1) 24
            get(1, 23) 23
            size(2) 0
            """);
        Script.check("promise 3: A PART of a PART: its places count from its start", Runs.list(0, 0, 1, 2, 3, 4, 5) + """
            view(0, 1, 4) 1
            view(1, 0, 3) 2
            view(1, 2, 3) 3
            view(1, 3, 3) 4
            """ + Runs.holds(2, 2, 3, 4) + Runs.holds(3, 4) + Runs.holds(4));
    }

    private static void viewOfListRefused() {
        for (String ends : new String[] {"-1, 0", "-1, 3", "0, 4", "4, 4", "2, 1", "3, 0", "MIN, MAX", "MIN, 0",
            "0, MAX", "MAX, MIN", "MAX, MAX", "MIN, MIN", "0, -1", "-1, -1"}) {
            Script.check("promise 3: IllegalArgumentException if not 0 <= from <= to <= size",
                Runs.list(0, 0, 1, 2, 3) + "view(0, " + ends + ") ARG\ncreate(0) 1\n");
        }
        Script.check("promise 3: <= size: that of the PART, not of its base", Runs.list(0, 0, 1, 2, 3) + """
            view(0, 1, 3) 1
            view(1, 0, 3) ARG
            view(1, -1, 1) ARG
            view(1, 3, 3) ARG
            view(1, 0, 2) 2
            """);
        Script.check("promise 3: <= size: the one it has now", Runs.list(0, 0, 1) + """
            view(0, 0, 2) ARG
            insert(0, 1, 2) ok
            view(0, 0, 2) 1
            remove(0, 0) 1
            view(0, 0, 2) ARG
            """);
    }

    private static void viewOfTreeEnds() {
        String tree = Runs.map(0, 4, 1, 2, 3, 4, 5);
        Script.check("promise 3: the keys from .. to: both of them", tree + "view(0, 2, 4) 1\n" + Runs.walks(1, 2, 3, 4)
            + "has(1, 1) false\nhas(1, 2) true\nhas(1, 4) true\nhas(1, 5) false\n");
        Script.check("promise 3: the keys from .. to: one of them", tree + "view(0, 3, 3) 1\n" + Runs.walks(1, 3)
            + "put(1, 3, 0) false\nput(1, 2, 0) ARG\nput(1, 4, 0) ARG\n");
        Script.check("promise 3: the keys from .. to: all that there can be", """
            create(4) 0
            view(0, MIN, MAX) 1
            put(1, MIN, 1) true
            put(1, MAX, 2) true
            size(1) 2
            view(0, MIN, MIN) 2
            view(0, MAX, MAX) 3
            size(2) 1
            size(3) 1
            value(2, MIN) 1
            value(3, MAX) 2
            has(2, MAX) false
            put(2, -2147483647, 0) ARG
            put(3, 2147483646, 0) ARG
            """);
        Script.check("promise 3: the keys from .. to: also where there are none, and below 0", """
            create(4) 0
            view(0, -9, -7) 1
            size(1) 0
            put(1, -9, 0) true
            put(1, -7, 0) true
            put(1, -10, 0) ARG
            put(1, -6, 0) ARG
            size(1) 2
            """);
        for (String ends : new String[] {"1, 0", "MAX, MIN", "0, -1", "MIN, MIN", "MAX, MAX"}) {
            boolean rising = ends.equals("MIN, MIN") || ends.equals("MAX, MAX");
            Script.check("promise 3: or not from <= to", "create(4) 0\nview(0, " + ends + ") " + (rising ? 1 : "ARG")
                + "\n");
        }
    }

    private static void viewOfRange() {
        String range = Runs.map(0, 4, 1, 2, 3, 4, 5) + "view(0, 2, 4) 1\n";
        Script.check("promise 3: a RANGE of a .. RANGE (there, keys that are in both): wider at both ends",
            range + "view(1, 0, 9) 2\n" + Runs.walks(2, 2, 3, 4) + "put(2, 1, 0) ARG\nput(2, 5, 0) ARG\n");
        Script.check("promise 3: keys that are in both: over the lower end",
            range + "view(1, 0, 2) 2\n" + Runs.walks(2, 2) + "put(2, 1, 0) ARG\nput(2, 3, 0) ARG\n");
        Script.check("promise 3: keys that are in both: over the upper end",
            range + "view(1, 4, 9) 2\n" + Runs.walks(2, 4) + "put(2, 3, 0) ARG\nput(2, 5, 0) ARG\n");
        Script.check("promise 3: keys that are in both: none, just below", range + """
            view(1, 0, 1) 2
            size(2) 0
            put(2, 0, 0) ARG
            put(2, 1, 0) ARG
            put(2, 2, 0) ARG
            has(2, 1) false
            """);
        Script.check("promise 3: keys that are in both: none, just above, and a RANGE of it", range + """
            view(1, 5, 9) 2
            size(2) 0
            put(2, 4, 0) ARG
            put(2, 5, 0) ARG
            view(2, MIN, MAX) 3
            size(3) 0
            put(3, 5, 0) ARG
            put(3, 3, 0) ARG
            near(3, 9, 0) NONE
            open(0, 3) ok
            left(0) 0
            next(0, true) NONE
            sift(3, 1, 0) 0
            same(2, 3) true
            """);
        Script.check("promise 3: of a RANGE: not from <= to", range + """
            view(1, 3, 2) ARG
            view(1, MAX, MIN) ARG
            view(1, 3, 3) 2
            """);
    }

    private static void viewAsTheTenth() {
        Script.check("promise 3: IllegalStateException if there are 10 containers: the tenth may be a view",
            ten().replace("create(0) 9\n", "view(0, 0, 0) 9\n") + "view(0, 0, 0) F\nview(9, 0, 0) F\n");
        Script.check("promise 3: IllegalStateException if there are 10 containers: of a TREE",
            ten().replace("create(0) 9\n", "create(4) 9\n") + "view(9, 0, 0) F\nview(9, 1, 0) ARG\n");
    }

    private static void kind() {
        for (int kind = 0; kind <= 5; kind++) {
            Script.check("promise 4: Its kind", "create(" + kind + ") 0\nkind(0) " + kind + "\nkind(1) N\nkind(-1) N\n");
        }
        Script.check("promise 4: Its kind: of a PART of a PART, stale too, and of a RANGE of a RANGE", """
            create(1) 0
            view(0, 0, 0) 1
            view(1, 0, 0) 2
            create(4) 3
            view(3, 0, 0) 4
            view(4, 1, 1) 5
            insert(0, 0, 1) ok
            kind(1) 6
            kind(2) 6
            kind(4) 7
            kind(5) 7
            """);
    }

    private static void size() {
        for (int kind = 0; kind <= 5; kind++) {
            boolean isMap = kind >= 2 && kind <= 4;
            int most = kind == 3 ? 6 : 24;
            String filled = isMap ? Runs.map(0, kind, Runs.upTo(most)) : Runs.list(0, kind, Runs.upTo(most));
            Script.check("promise 5: How many numbers or keys: empty", "create(" + kind + ") 0\nsize(0) 0\n");
            Script.check("promise 5: How many numbers or keys: full", filled + "size(0) " + most + "\n");
        }
        Script.check("promise 5: equal numbers count each, equal keys once", """
            create(5) 0
            2 * insert(0, 0, 7) ok
            size(0) 2
            create(1) 1
            2 * insert(1, 0, 7) ok
            size(1) 2
            create(2) 2
            put(2, 7, 1) true
            put(2, 7, 2) false
            size(2) 1
            """);
        Script.check("promise 5: S: a stale PART has none, its base has", Runs.list(0, 0, 1) + """
            view(0, 0, 1) 1
            remove(0, 0) 1
            size(1) S
            size(0) 0
            """);
    }

    private static void siftModulo() {
        Script.check("promise 19: (0 .. by - 1, also for numbers below 0)", Runs.list(0, 0, -4, -3, -2, -1, 0, 1, 2, 3)
            + "sift(0, 3, 2) 3\n" + Runs.holds(0, -3, -2, 0, 1, 3) + "sift(0, 3, 0) 3\n" + Runs.holds(0, -2, 1)
            + "sift(0, 3, 1) 2\nsize(0) 0\n");
        Script.check("promise 19: the least by there is: all are 0 modulo 1", Runs.list(0, 1, -1, 0, 7)
            + "sift(0, 1, 1) 0\nsift(0, 1, 0) 3\nsize(0) 0\n");
        Script.check("promise 19: the greatest by, and the least and the greatest numbers", """
            create(0) 0
            insert(0, 0, MIN) ok
            insert(0, 1, MAX) ok
            insert(0, 2, -1) ok
            insert(0, 3, 0) ok
            sift(0, MAX, 2147483645) 0
            sift(0, MAX, MAX) 0
            sift(0, MAX, 2147483646) 2
            get(0, 0) MAX
            get(0, 1) 0
            sift(0, MAX, 0) 2
            """);
        Script.check("promise 19: the keys, of maps, not the values", """
            create(4) 0
            put(0, -3, 2) true
            put(0, 2, -3) true
            put(0, MIN, 1) true
            sift(0, 2, 1) 1
            has(0, -3) false
            value(0, 2) -3
            sift(0, 2, 0) 2
            size(0) 0
            """);
    }

    private static void siftEachForItself() {
        Script.check("promise 19: Removes .. all: neighbours, the first and the last",
            Runs.list(0, 0, 2, 4, 1, 6, 8) + "sift(0, 2, 0) 4\n" + Runs.holds(0, 1));
        Script.check("promise 19: of an empty list or map", """
            create(0) 0
            create(2) 1
            create(3) 2
            create(4) 3
            sift(0, 1, 0) 0
            sift(1, 1, 0) 0
            sift(2, 1, 0) 0
            sift(3, 1, 0) 0
            """);
        Script.check("promise 19: of a full list and a full map", Runs.list(0, 0, Runs.upTo(24))
            + Runs.map(1, 2, Runs.upTo(24)) + """
            sift(0, 24, 23) 1
            sift(1, 24, 0) 1
            sift(0, 1, 0) 23
            sift(1, 1, 0) 23
            room(0) 28
            room(1) 32
            """);
        Script.check("promise 19: from a PART or a RANGE only what it shows",
            Runs.list(0, 0, 2, 4, 6, 8) + "view(0, 1, 3) 1\nsift(1, 2, 0) 2\nsize(1) 0\n" + Runs.holds(0, 2, 8)
            + Runs.map(2, 4, 2, 4, 6, 8) + "view(2, 4, 6) 3\nsift(3, 2, 0) 2\nsize(3) 0\n" + Runs.walks(2, 2, 8));
        Script.check("promise 19: the order of what stays, of a TABLE and a RECENT",
            Runs.map(0, 2, 5, 2, 9, 4, 1) + "sift(0, 2, 0) 2\n" + Runs.walks(0, 5, 9, 1)
            + Runs.map(1, 3, 5, 2, 9, 4, 1) + "sift(1, 2, 0) 2\n" + Runs.walks(1, 5, 9, 1) + "value(1, 9) 90\n");
        Script.check("promise 19: what removed none changed nothing", Runs.list(0, 0, 1, 3) + """
            view(0, 0, 2) 1
            open(0, 0) ok
            sift(0, 2, 0) 0
            left(0) 2
            size(1) 2
            """);
    }

    private static void siftRest() {
        Script.check("promise 19: no number is a rest outside of 0 .. by - 1 modulo by", Runs.list(0, 0, -3, -1, 0, 2, 3)
            + "sift(0, 3, 3) 0\nsift(0, 3, -1) 0\nsift(0, 3, -3) 0\nsift(0, 3, MIN) 0\nsift(0, 3, MAX) 0\n"
            + "size(0) 5\nsift(0, 3, 2) 2\n");
    }

    private static void siftRefused() {
        for (String by : new String[] {"0", "-1", "-2", "MIN"}) {
            String sift = "sift(0, " + by + ", 0) ARG\n";
            Script.check("promise 19: IllegalArgumentException if by is below 1", Runs.list(0, 0, 0, 1) + sift);
            Script.check("promise 19: IllegalArgumentException if by is below 1: of an empty one", "create(4) 0\n" + sift);
        }
        Script.check("promise 19: K (a HEAP)", Runs.list(0, 5, 0, 1) + "sift(0, 1, 0) K\nsift(0, 0, 0) K\nsize(0) 2\n");
    }

    private static void sameLists() {
        Script.check("promise 20: two lists: empty ones of any kind", """
            create(0) 0
            create(1) 1
            view(0, 0, 0) 2
            same(0, 1) true
            same(1, 2) true
            same(2, 0) true
            same(0, 0) true
            """);
        String three = Runs.list(0, 0, 1, 2, 3);
        Script.check("promise 20: the same numbers: one that differs at the first place",
            three + Runs.list(1, 1, 9, 2, 3) + "same(0, 1) false\nsame(1, 0) false\nset(1, 0, 1) 9\nsame(0, 1) true\n");
        Script.check("promise 20: the same numbers: one that differs at the last place",
            three + Runs.list(1, 1, 1, 2, 9) + "same(0, 1) false\nsame(1, 0) false\nset(1, 2, 3) 9\nsame(1, 0) true\n");
        Script.check("promise 20: the same numbers: one more, one fewer",
            three + Runs.list(1, 1, 1, 2, 3, 4) + Runs.list(2, 1, 1, 2)
            + "same(0, 1) false\nsame(1, 0) false\nsame(0, 2) false\nsame(2, 0) false\n");
        Script.check("promise 20: in the same order",
            three + Runs.list(1, 1, 3, 2, 1) + "same(0, 1) false\nsort(1, 0) ok\nsame(0, 1) true\n");
        Script.check("promise 20: a list and a PART of it", three + """
            view(0, 0, 3) 1
            view(0, 0, 2) 2
            same(0, 1) true
            same(0, 2) false
            same(1, 2) false
            """);
        Script.check("promise 20: the same numbers: what stands just beside a PART does not count",
            Runs.list(0, 0, 7, 1, 2, 8) + Runs.list(1, 1, 1, 2) + Runs.list(2, 0, 9, 1, 2, 6) + """
            view(0, 1, 3) 3
            view(2, 1, 3) 4
            same(3, 1) true
            same(1, 3) true
            same(3, 4) true
            view(0, 2, 2) 5
            view(2, 3, 3) 6
            create(1) 7
            same(5, 6) true
            same(5, 7) true
            same(7, 6) true
            """);
        Script.check("promise 20: two full lists", Runs.list(0, 0, Runs.upTo(24)) + Runs.list(1, 1, Runs.upTo(24))
            + "same(0, 1) true\nset(1, 23, 0) 23\nsame(0, 1) false\n");
    }

    private static void sameMaps() {
        Script.check("promise 20: two maps: empty ones of any kind", """
            create(2) 0
            create(3) 1
            create(4) 2
            view(2, 0, 0) 3
            same(0, 1) true
            same(1, 2) true
            same(2, 3) true
            same(3, 0) true
            """);
        String three = Runs.map(0, 2, 3, 1, 2);
        for (int kind = 2; kind <= 4; kind++) {
            Script.check("promise 20: the same keys with the same values, whatever the order: kind " + kind,
                three + Runs.map(1, kind, 1, 2, 3) + "same(0, 1) true\nsame(1, 0) true\n");
            Script.check("promise 20: the same keys: one more: kind " + kind,
                three + Runs.map(1, kind, 1, 2, 3, 4) + "same(0, 1) false\nsame(1, 0) false\n");
            Script.check("promise 20: the same keys: another one instead: kind " + kind,
                three + Runs.map(1, kind, 1, 2, 4) + "same(0, 1) false\nsame(1, 0) false\n");
            Script.check("promise 20: with the same values: kind " + kind,
                three + Runs.map(1, kind, 1, 2, 3) + "put(1, 3, 31) false\nsame(0, 1) false\nsame(1, 0) false\n");
        }
        Script.check("promise 20: a value of 0 is not a key that is missing", """
            create(2) 0
            create(4) 1
            put(0, 0, 0) true
            put(1, 1, 0) true
            same(0, 1) false
            same(1, 0) false
            """);
        Script.check("promise 20: a RANGE and what it is of", Runs.map(0, 4, 1, 2, 3) + """
            view(0, 1, 3) 1
            view(0, 2, 3) 2
            same(0, 1) true
            same(0, 2) false
            same(2, 1) false
            drop(0, 1) 10
            same(0, 2) true
            """);
        Script.check("promise 20: the same keys: what lies just beside a RANGE does not count",
            Runs.map(0, 4, 0, 1, 2, 3) + Runs.map(1, 2, 2, 1) + Runs.map(2, 4, -1, 1, 2, 9) + """
            view(0, 1, 2) 3
            view(2, 0, 8) 4
            same(3, 1) true
            same(1, 3) true
            same(3, 4) true
            same(4, 3) true
            """);
        Script.check("promise 20: two full maps", Runs.map(0, 2, Runs.upTo(24)) + Runs.map(1, 4, Runs.upTo(24))
            + "same(0, 1) true\nput(1, 23, 0) false\nsame(0, 1) false\nsame(1, 0) false\n");
    }

    private static void sameOthers() {
        Script.check("promise 20: false for others: a list and a map, both empty", """
            create(0) 0
            create(2) 1
            create(4) 2
            create(1) 3
            same(0, 1) false
            same(1, 0) false
            same(2, 3) false
            same(3, 2) false
            """);
        Script.check("promise 20: false for others: a HEAP, with another, with itself, with a list and a map", """
            create(5) 0
            create(5) 1
            create(0) 2
            create(2) 3
            same(0, 1) false
            same(0, 0) false
            same(0, 2) false
            same(2, 0) false
            same(0, 3) false
            same(3, 0) false
            """);
        Script.check("promise 20: N; S: of either, also where the answer would be false", """
            create(0) 0
            view(0, 0, 0) 1
            create(2) 2
            create(5) 3
            insert(0, 0, 1) ok
            same(1, 0) S
            same(0, 1) S
            same(1, 1) S
            same(1, 2) S
            same(2, 1) S
            same(3, 1) S
            same(1, 4) N
            same(4, 1) N
            same(-1, 1) N
            same(1, -1) N
            """);
    }
}
