/** The boundary cases of 'What it is' and of 'Terms', each sentence by itself. The titles quote it. */
public final class TermsBoundaryTest {
    public static void main(String[] args) {
        calls512();
        tenContainers();
        viewsDownToTheBase();
        fullLists();
        fullMaps();
        whatIsAChange();
        changesAddUp();
        whatIsNoChange();
        insertingMoves();
        roomGrows();
        roomStays();
        partsGrow();
        partIsStale();
        partIsNotStale();
        bucketsDouble();
        keysInBuckets();
        orderOfTable();
        orderOfRecent();
        changeOfRecent();
        seventhKey();
        risingOrder();
        fourIterators();
        iteratorsStand();
        iteratorsRemember();
        latest();
        Script.end();
    }

    private static void calls512() {
        Script.check("An object is used for at most 512 calls: the last one is answered too", """
            create(0) 0
            open(0, 0) ok
            """ + """
            plant(0, 7) ok
            next(0, false) 7
            erase(0) ok
            """.repeat(169) + """
            plant(0, 5) ok
            size(0) 1
            next(0, false) 5
            """);
        Script.check("An object is used for at most 512 calls: 508 changes are still told from none", """
            create(3) 0
            open(0, 0) ok
            put(0, 1, 1) true
            put(0, 2, 2) true
            """ + "value(0, 1) 1\nvalue(0, 2) 2\n".repeat(253) + """
            open(1, 0) ok
            left(0) S
            """);
    }

    private static void tenContainers() {
        Script.check("CONTAINERS 0, 1, .. (at most 10): the tenth is made, the eleventh not, by create", numbered(9) + """
            kind(9) N
            create(1) 9
            kind(9) 1
            create(1) F
            kind(10) N
            """);
        Script.check("CONTAINERS 0, 1, .. (at most 10): nor by view; views count", numbered(8) + """
            view(0, 0, 0) 8
            view(8, 0, 0) 9
            view(9, 0, 0) F
            create(0) F
            kind(9) 6
            """);
        Script.check("of KINDS: 0 ROW, 1 CHAIN, 6 PART; 2 TABLE, 3 RECENT, 4 TREE, 7 RANGE; and 5 HEAP", """
            create(0) 0
            room(0) 4
            create(1) 1
            get(1, 0) NONE
            room(1) K
            create(2) 2
            bucket(2, 0) 0
            create(3) 3
            bucket(3, 0) 0
            create(4) 4
            near(4, 0, 0) NONE
            create(5) 5
            insert(5, -1, 1) ok
            view(1, 0, 0) 6
            kind(6) 6
            view(4, 0, 0) 7
            kind(7) 7
            """);
    }

    private static String numbered(int count) {
        StringBuilder calls = new StringBuilder();
        for (int i = 0; i < count; i++) {
            calls.append("create(1) " + i + "\n");
        }
        return calls.toString();
    }

    private static void viewsDownToTheBase() {
        StringBuilder parts = new StringBuilder(Runs.list(0, 0, 1, 2, 3) + "view(0, 1, 2) 1\n");
        StringBuilder ranges = new StringBuilder(Runs.map(0, 4, 1, 2, 3) + "view(0, 1, 20) 1\n");
        for (int view = 2; view < 10; view++) {
            parts.append("view(" + (view - 1) + ", 0, 1) " + view + "\n");
            ranges.append("view(" + (view - 1) + ", " + view + ", 20) " + view + "\n");
        }
        Script.check("what is changed through a view is changed .. down to its BASE: nine parts deep",
            parts + """
            set(9, 0, 20) 2
            get(0, 1) 20
            insert(9, 1, 25) ok
            size(9) 2
            size(5) 2
            size(1) 2
            size(0) 4
            get(0, 2) 25
            remove(9, 0) 20
            sort(9, 0) ok
            size(1) 1
            get(1, 0) 25
            """ + Runs.holds(0, 1, 25, 3));
        Script.check("what is changed through a view is changed .. down to its BASE: nine ranges deep",
            ranges + """
            size(9) 0
            put(9, 8, 0) ARG
            put(9, 9, 90) true
            put(8, 8, 80) true
            size(9) 1
            size(8) 2
            size(1) 5
            merge(9, 9, 1) 91
            value(0, 9) 91
            drop(9, 9) 91
            has(0, 9) false
            """ + Runs.walks(0, 1, 2, 3, 8));
    }

    private static void fullLists() {
        for (int kind = 0; kind <= 1; kind++) {
            Script.check("A base holds at most 24 numbers: list of kind " + kind, "create(" + kind + ") 0\n" + """
                23 * insert(0, 0, 1) ok
                insert(0, 23, 2) ok
                size(0) 24
                insert(0, 0, 3) F
                insert(0, 24, 3) F
                view(0, 5, 5) 1
                insert(1, 0, 3) F
                view(1, 0, 0) 2
                insert(2, 0, 3) F
                open(0, 2) ok
                plant(0, 3) F
                open(0, 0) ok
                plant(0, 3) F
                set(0, 23, 4) 2
                remove(0, 0) 1
                insert(0, 23, 5) ok
                insert(0, 23, 6) F
                get(0, 22) 4
                get(0, 23) 5
                """);
        }
        Script.check("A base holds at most 24 numbers: through a PART too", """
            create(0) 0
            view(0, 0, 0) 1
            24 * insert(1, 0, 1) ok
            insert(1, 0, 1) F
            insert(0, 0, 1) F
            size(1) 24
            """);
        Script.check("A base holds at most 24 numbers: by plant too", """
            create(1) 0
            open(0, 0) ok
            24 * plant(0, 1) ok
            plant(0, 1) F
            size(0) 24
            next(0, true) NONE
            next(0, false) 1
            erase(0) ok
            plant(0, 2) ok
            plant(0, 1) F
            get(0, 23) 2
            """);
        Script.check("A base holds at most 24 numbers: a HEAP", """
            create(5) 0
            23 * insert(0, 0, 5) ok
            insert(0, 0, 4) ok
            insert(0, 0, 3) F
            size(0) 24
            remove(0, 0) 4
            insert(0, 0, 3) ok
            insert(0, 0, 2) F
            remove(0, 0) 3
            """);
    }

    private static void fullMaps() {
        Script.check("A base holds at most 24 .. keys: a TABLE", Runs.map(0, 2, Runs.upTo(24)) + """
            put(0, 24, 1) F
            merge(0, -1, 1) F
            size(0) 24
            put(0, 0, 7) false
            merge(0, 23, 1) 231
            drop(0, 5) 50
            merge(0, -1, 1) 1
            put(0, 5, 1) F
            size(0) 24
            """);
        Script.check("A base holds at most 24 .. keys: a TREE, through a RANGE too", """
            create(4) 0
            view(0, 0, 100) 1
            view(1, 50, 60) 2
            """ + Runs.map(0, 4, Runs.upTo(24)).replace("create(4) 0\n", "") + """
            put(0, 24, 1) F
            put(1, 24, 1) F
            merge(1, 24, 1) F
            size(2) 0
            put(2, 50, 1) F
            merge(2, 60, 1) F
            put(1, 23, 7) false
            merge(1, 23, 1) 8
            drop(1, 0) 0
            put(2, 50, 1) true
            put(1, 0, 1) F
            size(0) 24
            """);
        Script.check("A base holds at most 24: what another base holds does not count",
            Runs.list(0, 0, Runs.upTo(24)) + Runs.list(1, 0, Runs.upTo(24)) + """
            insert(0, 0, 1) F
            create(0) 2
            insert(2, 0, 1) ok
            """);
    }

    private static void whatIsAChange() {
        String list = Runs.list(0, 0, 1, 2, 3) + "open(0, 0) ok\nopen(1, 0) ok\nnext(1, true) 1\n";
        changes("insert", list, "insert(0, 3, 4) ok");
        changes("remove", list, "remove(0, 2) 3");
        changes("plant", list, "plant(1, 4) ok");
        changes("erase", list, "erase(1) ok");
        changes("sift", list, "sift(0, 3, 0) 1");
        changes("sorting what is sorted already", list, "sort(0, 0) ok");
        changes("sorting by another how", list, "sort(0, 1) ok");
        changes("sorting no numbers", "create(1) 0\nopen(0, 0) ok\n", "sort(0, 0) ok");
        changes("sorting one number", Runs.list(0, 1, 5) + "open(0, 0) ok\n", "sort(0, 2) ok");
        changes("sorting an empty part", list + "view(0, 1, 1) 1\n", "sort(1, 0) ok");
        for (int kind = 2; kind <= 4; kind++) {
            String map = Runs.map(0, kind, 1, 2, 3) + "open(0, 0) ok\nopen(1, 0) ok\nnext(1, true) 1\n";
            changes("put of a new key, kind " + kind, map, "put(0, 4, 4) true");
            changes("merge of a new key, kind " + kind, map, "merge(0, 4, 4) 4");
            changes("drop, kind " + kind, map, "drop(0, 3) 30");
            changes("sift, kind " + kind, map, "sift(0, 3, 0) 1");
            changes("erase, kind " + kind, map, "erase(1) ok");
        }
        String range = Runs.map(0, 4, 1, 2, 3) + "view(0, 2, 9) 1\nopen(0, 0) ok\n";
        changes("put through a range", range, "put(1, 9, 0) true");
        changes("drop through a range", range, "drop(1, 2) 20");
    }

    private static void changes(String what, String before, String change) {
        Script.check("CHANGES of a base are counted: " + what, before + change + "\nleft(0) S\n");
    }

    /** Two changes never make none, whichever they are. */
    private static void changesAddUp() {
        String list = Runs.list(0, 0, 1, 2, 3) + "view(0, 0, 3) 1\nopen(0, 0) ok\n";
        String[] ofList = {"insert(0, 0, 5) ok\n", "remove(0, 1) ?\n", "sort(0, 1) ok\n", "sift(0, 3, 2) ?\n"};
        String recent = Runs.map(0, 3, 1, 2, 3, 4, 5, 6) + "open(0, 0) ok\n";
        String[] ofRecent = {"put(0, 9, 90) true\n", "drop(0, 4) ?\n", "value(0, 2) ?\n", "merge(0, 3, 1) ?\n"};
        for (int one = 0; one < 4; one++) {
            for (int two = 0; two < 4; two++) {
                if (one != two) {
                    String calls = list + ofList[one] + ofList[two];
                    isStale(calls + "left(0) ?\n");
                    isStale(calls + "size(1) ?\n");
                    isStale(recent + ofRecent[one] + ofRecent[two] + "left(0) ?\n");
                }
            }
        }
    }

    private static void isStale(String calls) {
        Script.compare("if it has had another number, they are STALE: two changes\n" + calls,
            Script.lastAnswer(calls), "throws.RuntimeException");
    }

    private static void whatIsNoChange() {
        String list = Runs.list(0, 1, 1, 2, 3) + "view(0, 0, 3) 1\nopen(0, 0) ok\nopen(1, 1) ok\nnext(1, true) 1\n";
        Script.check("To set a number .. is none", list + """
            set(0, 0, 9) 1
            set(1, 2, 8) 3
            assign(1, 7) 9
            left(0) 3
            left(1) 2
            size(1) 3
            """);
        for (int kind = 2; kind <= 4; kind++) {
            Script.check("To set .. the value of a key that is there, is none: kind " + kind,
                Runs.map(0, kind, 1, 2) + """
                open(0, 0) ok
                next(0, true) 1
                put(0, 2, 5) false
                merge(0, 2, 5) 10
                value(0, 2) 10
                assign(0, 6) 10
                left(0) 1
                """);
        }
        Script.check("To set .. the value of a key that is there, is none: a key before others", """
            create(2) 0
            put(0, 1, 1) true
            put(0, 2, 2) true
            create(4) 1
            put(1, 1, 1) true
            put(1, 2, 2) true
            view(1, 0, 1) 2
            open(0, 0) ok
            open(1, 1) ok
            put(0, 1, 5) false
            merge(0, 1, 5) 10
            value(0, 1) 10
            put(2, 1, 5) false
            merge(2, 1, 5) 10
            value(2, 1) 10
            left(0) 2
            left(1) 2
            """);
        Script.check("To read, and to remove nothing, is none", list + """
            get(0, 0) 1
            size(0) 3
            kind(0) 1
            same(0, 1) true
            sift(0, 5, 4) 0
            sift(1, 5, 4) 0
            view(0, 0, 3) 2
            open(2, 0) ok
            left(0) 3
            left(1) 2
            """);
    }

    private static void insertingMoves() {
        for (int kind = 0; kind <= 1; kind++) {
            Script.check("inserting at a place moves what is there and behind it one farther: first, kind " + kind,
                Runs.list(0, kind, 1, 2, 3) + "insert(0, 0, 9) ok\n" + Runs.holds(0, 9, 1, 2, 3));
            Script.check("inserting at a place moves what is there and behind it one farther: last, kind " + kind,
                Runs.list(0, kind, 1, 2, 3) + "insert(0, 2, 9) ok\n" + Runs.holds(0, 1, 2, 9, 3));
            Script.check("inserting behind all moves nothing: kind " + kind,
                Runs.list(0, kind, 1, 2, 3) + "insert(0, 3, 9) ok\n" + Runs.holds(0, 1, 2, 3, 9));
            Script.check("removing the other way: first, kind " + kind,
                Runs.list(0, kind, 1, 2, 3) + "remove(0, 0) 1\n" + Runs.holds(0, 2, 3));
            Script.check("removing the other way: last, kind " + kind,
                Runs.list(0, kind, 1, 2, 3) + "remove(0, 2) 3\n" + Runs.holds(0, 1, 2));
            Script.check("removing the other way: the only one, kind " + kind,
                Runs.list(0, kind, 1) + "remove(0, 0) 1\nsize(0) 0\nget(0, 0) NONE\n");
        }
    }

    private static void roomGrows() {
        Script.check("A ROW has ROOM: at first 4; .. half of it more (rounded down): at each brink", """
            create(0) 0
            room(0) 4
            4 * insert(0, 0, 1) ok
            room(0) 4
            insert(0, 0, 1) ok
            room(0) 6
            insert(0, 0, 1) ok
            room(0) 6
            insert(0, 0, 1) ok
            room(0) 9
            2 * insert(0, 0, 1) ok
            room(0) 9
            insert(0, 0, 1) ok
            room(0) 13
            3 * insert(0, 0, 1) ok
            room(0) 13
            insert(0, 0, 1) ok
            room(0) 19
            5 * insert(0, 0, 1) ok
            room(0) 19
            insert(0, 0, 1) ok
            room(0) 28
            4 * insert(0, 0, 1) ok
            room(0) 28
            """);
        Script.check("if a number comes in and there is none left: through a PART", """
            create(0) 0
            view(0, 0, 0) 1
            4 * insert(1, 0, 1) ok
            room(0) 4
            insert(1, 0, 1) ok
            room(0) 6
            """);
        Script.check("if a number comes in and there is none left: by plant", """
            create(0) 0
            open(0, 0) ok
            4 * plant(0, 1) ok
            room(0) 4
            plant(0, 1) ok
            room(0) 6
            """);
    }

    private static void roomStays() {
        Script.check("if a number comes in: a refused one does not", Runs.list(0, 0, 1, 2, 3, 4) + """
            insert(0, 5, 1) NONE
            insert(0, -1, 1) NONE
            room(0) 4
            """);
        Script.check("and there is none left: what went left room", Runs.list(0, 0, 1, 2, 3, 4) + """
            remove(0, 0) 1
            insert(0, 0, 9) ok
            set(0, 0, 8) 9
            room(0) 4
            """);
        Script.check("half of it more: it never becomes less", Runs.list(0, 0, 1, 2, 3, 4, 5) + """
            sift(0, 1, 0) 5
            room(0) 6
            6 * insert(0, 0, 1) ok
            room(0) 6
            insert(0, 0, 1) ok
            room(0) 9
            """);
        Script.check("half of it more: a full ROW refuses and keeps its room", Runs.list(0, 0, Runs.upTo(24)) + """
            insert(0, 0, 1) F
            room(0) 28
            """);
    }

    private static void partsGrow() {
        String parts = Runs.list(0, 1, 1, 2, 3, 4, 5) + "view(0, 1, 4) 1\nview(1, 1, 2) 2\n";
        Script.check("What comes in .. through a PART makes it, and the PARTs that it is of, longer: at both ends",
            parts + """
            insert(2, 0, 20) ok
            insert(2, 2, 30) ok
            """ + Runs.holds(2, 20, 3, 30) + Runs.holds(1, 2, 20, 3, 30, 4) + Runs.holds(0, 1, 2, 20, 3, 30, 4, 5));
        Script.check("What .. goes through a PART makes it, and the PARTs that it is of, .. shorter: to nothing",
            parts + """
            remove(2, 0) 3
            size(2) 0
            get(2, 0) NONE
            remove(2, 0) NONE
            """ + Runs.holds(1, 2, 4) + Runs.holds(0, 1, 2, 4, 5));
        Script.check("an empty PART takes what comes in at its only place", parts + """
            view(2, 1, 1) 3
            insert(3, 0, 7) ok
            """ + Runs.holds(3, 7) + Runs.holds(2, 3, 7) + Runs.holds(1, 2, 3, 7, 4) + Runs.holds(0, 1, 2, 3, 7, 4, 5));
        Script.check("plant and erase, too", parts + """
            open(0, 2) ok
            plant(0, 8) ok
            next(0, true) 3
            erase(0) ok
            """ + Runs.holds(2, 8) + Runs.holds(1, 2, 8, 4));
        Script.check("sift, too, each for itself", parts + """
            sift(1, 1, 0) 3
            size(1) 0
            size(2) S
            """ + Runs.holds(0, 1, 5));
    }

    private static void partIsStale() {
        String parts = Runs.list(0, 0, 1, 2, 3, 4) + "view(0, 0, 3) 1\nview(1, 0, 2) 2\nview(2, 0, 1) 3\nview(1, 0, 2) 4\n";
        Script.check("A PART is STALE if its base has changed .. but through it: through the base", parts + """
            insert(0, 4, 5) ok
            size(1) S
            size(2) S
            size(3) S
            size(4) S
            """);
        Script.check("A PART is STALE if its base has changed .. but through it: through the PART that it is of",
            parts + """
            remove(1, 2) 3
            size(1) 2
            size(2) S
            size(3) S
            size(4) S
            """);
        Script.check("A PART is STALE if its base has changed .. but through it: through one beside it, of the same places",
            parts + """
            insert(4, 2, 9) ok
            size(4) 3
            size(1) 4
            size(2) S
            size(3) S
            """);
        Script.check("A PART is STALE if its base has changed .. but through it: by an iterator over the base",
            parts + """
            open(0, 0) ok
            plant(0, 9) ok
            size(1) S
            """);
        Script.check("A PART is STALE if its base has changed: by a sorting that moves nothing", parts + """
            sort(0, 0) ok
            size(1) S
            """);
        Script.check("A PART is STALE .. if what it is of is stale, and stays so when the list is as it was", parts + """
            insert(0, 4, 5) ok
            remove(0, 4) 5
            size(1) S
            size(3) S
            view(0, 0, 3) 5
            size(5) 3
            size(1) S
            """);
    }

    private static void partIsNotStale() {
        String parts = Runs.list(0, 0, 1, 2, 3, 4) + "view(0, 0, 3) 1\nview(1, 0, 2) 2\nview(2, 0, 1) 3\n";
        Script.check("STALE .. since it was made: what was before does not count", Runs.list(0, 0, 2, 1) + """
            sort(0, 0) ok
            view(0, 0, 2) 1
            """ + Runs.holds(1, 1, 2));
        Script.check("STALE .. but through it", parts + """
            insert(1, 0, 9) ok
            remove(1, 0) 9
            sort(1, 1) ok
            sift(1, 3, 0) 1
            size(1) 2
            """);
        Script.check("STALE .. (through a PART of it is through it, too)", parts + """
            insert(3, 0, 9) ok
            remove(3, 0) 9
            sort(3, 1) ok
            sift(3, 1, 0) 1
            size(3) 0
            size(2) 1
            size(1) 2
            """);
        Script.check("STALE .. but through it: by an iterator over a PART of it", parts + """
            open(0, 3) ok
            plant(0, 9) ok
            next(0, true) 1
            erase(0) ok
            size(3) 1
            size(2) 2
            size(1) 3
            """);
        Script.check("STALE .. if its base has changed: another base may", parts + Runs.list(4, 0, 1, 2) + """
            sort(4, 0) ok
            size(1) 3
            size(3) 1
            """);
    }

    private static void bucketsDouble() {
        Script.check("A TABLE .. BUCKETS: at first 4; .. twice as many if there are more keys than three quarters",
            Runs.map(0, 2, 1, 2, 3) + """
            room(0) 4
            put(0, 4, 0) true
            room(0) 8
            put(0, 5, 0) true
            put(0, 6, 0) true
            room(0) 8
            put(0, 7, 0) true
            room(0) 16
            """ + Runs.map(1, 2, Runs.upTo(12)) + """
            room(1) 16
            merge(1, 12, 0) 0
            room(1) 32
            """ + Runs.map(2, 2, Runs.upTo(24)) + """
            room(2) 32
            put(2, 24, 0) F
            room(2) 32
            """);
        Script.check("A RECENT .. BUCKETS: at first 4; twice as many", """
            create(3) 0
            room(0) 4
            put(0, 1, 0) true
            put(0, 2, 0) true
            put(0, 3, 0) true
            room(0) 4
            merge(0, 4, 0) 0
            room(0) 8
            put(0, 5, 0) true
            put(0, 6, 0) true
            room(0) 8
            """);
        Script.check("behind a new key: not behind one that is there", Runs.map(0, 2, 1, 2, 3) + """
            put(0, 3, 0) false
            merge(0, 1, 0) 10
            value(0, 2) 20
            room(0) 4
            """);
        Script.check("behind a new key: keys that go and come again count once, and buckets never become fewer",
            Runs.map(0, 2, 1, 2, 3) + """
            drop(0, 1) 10
            put(0, 1, 0) true
            room(0) 4
            put(0, 4, 0) true
            sift(0, 1, 0) 4
            room(0) 8
            put(0, 1, 0) true
            room(0) 8
            """);
    }

    private static void keysInBuckets() {
        Script.check("(k ^ k >>> 16) modulo their number: the high half is taken in", """
            create(2) 0
            put(0, 196608, 0) true
            bucket(0, 3) 1
            bucket(0, 0) 0
            bucket(0, 196611) 0
            put(0, 196611, 0) true
            bucket(0, 0) 1
            bucket(0, 65537) 1
            """);
        Script.check("(k ^ k >>> 16) modulo their number: keys below 0, the least and the greatest", """
            create(2) 0
            put(0, MIN, 0) true
            bucket(0, 0) 1
            put(0, MAX, 0) true
            bucket(0, 0) 2
            bucket(0, MAX) 2
            put(0, -1, 0) true
            bucket(0, MIN) 3
            bucket(0, 1) 0
            bucket(0, -2) 0
            put(0, -4, 0) true
            room(0) 8
            bucket(0, 3) 1
            bucket(0, 0) 3
            bucket(0, -1) 3
            """);
        Script.check("(of a power of two: the lowest bits): behind a doubling they part", """
            create(2) 0
            put(0, 1, 0) true
            put(0, 5, 0) true
            put(0, 9, 0) true
            bucket(0, 13) 3
            put(0, 13, 0) true
            bucket(0, 1) 2
            bucket(0, 5) 2
            bucket(0, 21) 2
            bucket(0, 0) 0
            """);
    }

    private static void orderOfTable() {
        Script.check("The ORDER of a TABLE's keys is that in which they came in",
            Runs.map(0, 2, 9, -1, 5, 0) + Runs.walks(0, 9, -1, 5, 0));
        Script.check("The ORDER .. of a TABLE: keys used or buckets doubled do not change it",
            Runs.map(0, 2, 9, -1, 5) + """
            put(0, 9, 1) false
            merge(0, -1, 1) -9
            value(0, 9) 1
            put(0, 3, 1) true
            room(0) 8
            """ + Runs.walks(0, 9, -1, 5, 3));
        Script.check("(a key that goes and comes again is new): first, middle and last",
            Runs.map(0, 2, 1, 2, 3) + "drop(0, 1) 10\nput(0, 1, 5) true\n" + Runs.walks(0, 2, 3, 1)
            + "drop(0, 3) 30\nmerge(0, 3, 6) 6\n" + Runs.walks(0, 2, 1, 3)
            + "drop(0, 3) 6\nput(0, 3, 7) true\n" + Runs.walks(0, 2, 1, 3) + "value(0, 1) 5\n");
    }

    private static void orderOfRecent() {
        String recent = Runs.map(0, 3, 1, 2, 3);
        Script.check("In a RECENT a key that is put .. becomes the last one of the order",
            recent + "put(0, 1, 5) false\n" + Runs.walks(0, 2, 3, 1) + "value(0, 1) 5\n");
        Script.check("In a RECENT a key that is .. merged .. becomes the last one",
            recent + "merge(0, 2, 5) 25\n" + Runs.walks(0, 1, 3, 2) + "value(0, 2) 25\n");
        Script.check("In a RECENT a key .. whose value is asked for, becomes the last one",
            recent + "value(0, 1) 10\n" + Runs.walks(0, 2, 3, 1));
        Script.check("In a RECENT no other call makes a key the last one", recent + Runs.map(1, 3, 1, 2, 3) + """
            has(0, 1) true
            bucket(0, 1) 1
            same(0, 1) true
            same(1, 0) true
            sift(0, 9, 8) 0
            open(1, 0) ok
            next(1, true) 1
            assign(1, 11) 10
            value(0, 9) NONE
            drop(0, 9) NONE
            """ + Runs.walks(0, 1, 2, 3) + "value(0, 1) 11\nvalue(0, 2) 20\nvalue(0, 3) 30\n");
        Script.check("In a RECENT values go with their keys",
            recent + "value(0, 1) 10\nvalue(0, 2) 20\nvalue(0, 3) 30\nvalue(0, 1) 10\n" + Runs.walks(0, 2, 3, 1));
    }

    private static void changeOfRecent() {
        String recent = Runs.map(0, 3, 1, 2, 3) + "open(0, 0) ok\n";
        Script.check("a change, if it was there and was not the last one: put of the first", recent + """
            put(0, 1, 10) false
            left(0) S
            """);
        Script.check("a change, if it was there and was not the last one: merge of the last but one", recent + """
            merge(0, 2, 0) 20
            left(0) S
            """);
        Script.check("a change, if it was there and was not the last one: value of the first", recent + """
            value(0, 1) 10
            left(0) S
            """);
        Script.check("a change, if .. was not the last one: the last one is none", recent + """
            put(0, 3, 5) false
            merge(0, 3, 5) 10
            value(0, 3) 10
            left(0) 3
            """);
        Script.check("a change, if .. was not the last one: the only one is the last one", """
            create(3) 0
            put(0, 1, 1) true
            open(0, 0) ok
            put(0, 1, 2) false
            merge(0, 1, 2) 4
            value(0, 1) 4
            left(0) 1
            """);
        Script.check("a change, if it was there: asking for one that is not is none", recent + """
            value(0, 4) NONE
            left(0) 3
            """);
    }

    private static void seventhKey() {
        String six = Runs.map(0, 3, 1, 2, 3, 4, 5, 6);
        Script.check("If there are 7 keys behind a new one: six stay", six + Runs.walks(0, 1, 2, 3, 4, 5, 6));
        Script.check("If there are 7 keys behind a new one .. the first one goes: by put",
            six + "put(0, 7, 70) true\nsize(0) 6\nhas(0, 1) false\n" + Runs.walks(0, 2, 3, 4, 5, 6, 7));
        Script.check("If there are 7 keys behind a new one .. the first one goes: by merge",
            six + "merge(0, 7, 70) 70\nsize(0) 6\n" + Runs.walks(0, 2, 3, 4, 5, 6, 7));
        Script.check("the first one goes: the first of the order, not the one that came first",
            six + "value(0, 1) 10\nput(0, 7, 70) true\nhas(0, 2) false\n" + Runs.walks(0, 3, 4, 5, 6, 1, 7));
        Script.check("(and its buckets were looked at): with all seven",
            six + "room(0) 8\nput(0, 7, 70) true\nroom(0) 16\nput(0, 8, 80) true\nroom(0) 16\n");
        Script.check("behind a new one: not behind one that is there",
            six + "put(0, 1, 11) false\nmerge(0, 2, 1) 21\nvalue(0, 3) 30\nroom(0) 8\n"
            + Runs.walks(0, 4, 5, 6, 1, 2, 3));
        Script.check("If there are 7 keys: one that went before left its place",
            six + "drop(0, 4) 40\nput(0, 7, 70) true\nroom(0) 8\n" + Runs.walks(0, 1, 2, 3, 5, 6, 7));
        Script.check("the first one goes: and is new when it comes again",
            six + "put(0, 7, 70) true\nvalue(0, 1) NONE\nmerge(0, 1, 4) 4\n" + Runs.walks(0, 3, 4, 5, 6, 7, 1));
        Script.check("a RECENT is never full: thirty keys come in one behind another",
            Runs.map(0, 3, Runs.upTo(30)) + "room(0) 16\n" + Runs.walks(0, 24, 25, 26, 27, 28, 29));
        Script.check("the first one goes: another change", six + """
            open(0, 0) ok
            put(0, 7, 70) true
            left(0) S
            """);
    }

    private static void risingOrder() {
        Script.check("The order of a TREE's keys .. is the rising one: the least and the greatest", """
            create(4) 0
            put(0, 0, 0) true
            put(0, MAX, 0) true
            put(0, -1, 0) true
            put(0, MIN, 0) true
            put(0, 1, 0) true
            open(0, 0) ok
            next(0, true) MIN
            next(0, true) -1
            next(0, true) 0
            next(0, true) 1
            next(0, true) MAX
            next(0, true) NONE
            """);
        Script.check("and of a RANGE's", """
            create(4) 0
            view(0, -1, 1) 1
            put(1, 1, 0) true
            put(1, -1, 0) true
            put(0, -2, 0) true
            put(0, 2, 0) true
            put(1, 0, 0) true
            """ + Runs.walks(1, -1, 0, 1) + Runs.walks(0, -2, -1, 0, 1, 2));
        Script.check("The order of a TREE: a value goes with its key", """
            create(4) 0
            put(0, 5, 55) true
            put(0, 1, 11) true
            put(0, 3, 33) true
            drop(0, 1) 11
            value(0, 3) 33
            value(0, 5) 55
            """);
    }

    private static void fourIterators() {
        Script.check("ITERATORS 0 .. 3: each for itself", Runs.list(0, 1, 1, 2, 3) + """
            open(0, 0) ok
            open(1, 0) ok
            open(2, 0) ok
            open(3, 0) ok
            next(1, true) 1
            next(2, true) 1
            next(2, true) 2
            next(3, true) 1
            next(3, true) 2
            next(3, true) 3
            left(0) 3
            left(1) 2
            left(2) 1
            left(3) 0
            open(4, 0) N
            open(-1, 0) N
            """);
    }

    private static void iteratorsStand() {
        Script.check("stand between places of a list ..; at first before all: no place is before it",
            Runs.list(0, 0, 1, 2) + """
            open(0, 0) ok
            next(0, false) NONE
            left(0) 2
            next(0, true) 1
            next(0, false) 1
            next(0, true) 1
            next(0, true) 2
            next(0, true) NONE
            left(0) 0
            """);
        Script.check("at first before all: of an empty one", """
            create(1) 0
            create(2) 1
            open(0, 0) ok
            open(1, 1) ok
            left(0) 0
            left(1) 0
            next(0, true) NONE
            next(0, false) NONE
            next(1, true) NONE
            """);
        Script.check("or of a map's order; at first before all: opened anew it stands there again",
            Runs.map(0, 2, 5, 3) + Runs.walks(0, 5, 3) + Runs.walks(0, 5, 3));
    }

    private static void iteratorsRemember() {
        Script.check("They remember how many changes the base has had when they were opened",
            Runs.list(0, 0, 2, 1) + """
            sort(0, 0) ok
            open(0, 0) ok
            left(0) 2
            remove(0, 0) 1
            left(0) S
            open(0, 0) ok
            left(0) 1
            """);
        Script.check("and anew behind what they changed themselves: erase and plant", Runs.list(0, 0, 1, 2) + """
            open(0, 0) ok
            open(1, 0) ok
            next(0, true) 1
            erase(0) ok
            left(0) 1
            plant(0, 9) ok
            left(0) 1
            left(1) S
            """);
        Script.check("if it has had another number, they are STALE: also if the list is as it was",
            Runs.list(0, 0, 1, 2) + """
            open(0, 0) ok
            insert(0, 2, 3) ok
            remove(0, 2) 3
            left(0) S
            """);
        Script.check("if it has had another number, they are STALE: changes of the base count, seen in the view or not",
            Runs.map(0, 4, 1, 5) + """
            view(0, 4, 6) 1
            open(0, 1) ok
            put(0, 9, 9) true
            left(0) S
            size(1) 1
            """);
        Script.check("if it has had another number, they are STALE: what was changed through the container counts too",
            Runs.list(0, 1, 1, 2) + """
            view(0, 0, 1) 1
            open(0, 1) ok
            insert(1, 0, 9) ok
            size(1) 2
            left(0) S
            """);
        Script.check("they are STALE: not by a change of another base", Runs.list(0, 1, 1, 2) + """
            open(0, 0) ok
            create(0) 1
            insert(1, 0, 9) ok
            sort(1, 0) ok
            left(0) 2
            """);
    }

    private static void latest() {
        String opened = Runs.list(0, 0, 1, 2, 3) + "open(0, 0) ok\n";
        Script.check("LATEST is what next .. gave last", opened + """
            next(0, true) 1
            next(0, true) 2
            assign(0, 9) 2
            """ + Runs.holds(0, 1, 9, 3));
        Script.check("LATEST is what .. prior gave last", opened + """
            next(0, true) 1
            next(0, true) 2
            next(0, false) 2
            next(0, false) 1
            assign(0, 9) 1
            """ + Runs.holds(0, 9, 2, 3));
        Script.check("none at first", opened + """
            erase(0) ARG
            assign(0, 9) ARG
            """);
        Script.check("none at first: nor when it is opened anew", opened + """
            next(0, true) 1
            open(0, 0) ok
            erase(0) ARG
            assign(0, 9) ARG
            """);
        Script.check("and behind inserting", opened + """
            next(0, true) 1
            plant(0, 7) ok
            erase(0) ARG
            assign(0, 9) ARG
            next(0, false) 7
            assign(0, 9) 7
            """);
        Script.check("or erasing", opened + """
            next(0, true) 1
            erase(0) ok
            erase(0) ARG
            assign(0, 9) ARG
            next(0, true) 2
            assign(0, 9) 2
            """);
        Script.check("not behind assigning, nor behind a refused call", opened + """
            next(0, true) 1
            next(0, false) 1
            next(0, false) NONE
            assign(0, 9) 1
            open(0, 1) N
            assign(0, 8) 9
            erase(0) ok
            """ + Runs.holds(0, 2, 3));
    }
}
