/**
 * The paragraph EXCEPTIONS of 'Terms': when N, K, S and F are thrown by each call that names them, and
 * which comes first where several apply. That nothing changes then is checked by Script behind each.
 */
public final class RefusedCallsTest {
    /** Container n is of kind n. */
    private static final String ONE_OF_EACH = """
        create(0) 0
        create(1) 1
        create(2) 2
        create(3) 3
        create(4) 4
        create(5) 5
        view(0, 0, 0) 6
        view(4, 0, 0) 7
        """;
    private static final String STALE_PART = """
        create(0) 0
        insert(0, 0, 1) ok
        insert(0, 1, 2) ok
        view(0, 0, 2) 1
        view(1, 0, 1) 2
        insert(0, 2, 3) ok
        """;
    /** Each call with its other arguments wrong too, where it has any, and the kinds that it is for. */
    private static final String[] CALLS_AND_KINDS = {
        "view(C, 5, 1)", "01467",
        "view(C, MIN, MAX)", "01467",
        "get(C, -1)", "016",
        "get(C, 0)", "016",
        "set(C, -1, 5)", "016",
        "set(C, 0, 5)", "016",
        "insert(C, -1, 5)", "0156",
        "insert(C, 0, 5)", "0156",
        "remove(C, -1)", "0156",
        "remove(C, 0)", "0156",
        "sort(C, 3)", "016",
        "sort(C, 0)", "016",
        "put(C, 1, 5)", "2347",
        "put(C, 0, 5)", "2347",
        "merge(C, 1, 5)", "2347",
        "merge(C, 0, 5)", "2347",
        "has(C, 0)", "2347",
        "value(C, 0)", "2347",
        "drop(C, 0)", "2347",
        "near(C, 0, 4)", "47",
        "near(C, 0, -1)", "47",
        "near(C, 0, 0)", "47",
        "room(C)", "023",
        "bucket(C, 0)", "23",
        "sift(C, 0, 0)", "0123467",
        "sift(C, 1, 0)", "0123467",
        "open(0, C)", "0123467",
        "kind(C)", "01234567",
        "size(C)", "01234567",
        "same(C, 0)", "01234567",
        "same(0, C)", "01234567",
    };
    private static final String[] ITERATOR_CALLS = {
        "next(I, true)", "next(I, false)", "left(I)", "erase(I)", "assign(I, 5)", "plant(I, 5)",
    };
    private static final String[] NO_SUCH_CONTAINERS = {"8", "9", "10", "11", "-1", "MIN", "MAX"};
    private static final String[] NO_SUCH_ITERATORS = {"4", "5", "-1", "MIN", "MAX"};

    public static void main(String[] args) {
        noSuchContainer();
        noSuchIterator();
        notOpened();
        wrongKind();
        wrongKindForIterator();
        staleList();
        staleIterator();
        notStale();
        firstOfAll();
        containersFirst();
        listsFirst();
        fullLast();
        mapsFirst();
        iteratorsFirst();
        Script.end();
    }

    private static void noSuchContainer() {
        for (int i = 0; i < CALLS_AND_KINDS.length; i += 2) {
            String call = CALLS_AND_KINDS[i];
            Script.check("N .. no such container: of a new object", call.replace("C", "0") + " N\n");
            for (String number : NO_SUCH_CONTAINERS) {
                Script.check("N .. no such container", ONE_OF_EACH + call.replace("C", number) + " N\n");
            }
        }
    }

    private static void noSuchIterator() {
        for (String number : NO_SUCH_ITERATORS) {
            for (String call : ITERATOR_CALLS) {
                Script.check("N .. no such iterator", "create(0) 0\nopen(0, 0) ok\n" + call.replace("I", number) + " N\n");
            }
            for (int kind = 0; kind <= 8; kind++) {
                Script.check("N .. no such iterator, whatever the container",
                    ONE_OF_EACH + "open(" + number + ", " + kind + ") N\n");
            }
        }
    }

    private static void notOpened() {
        for (int iterator = 0; iterator < 4; iterator++) {
            for (String call : ITERATOR_CALLS) {
                String refused = call.replace("I", "" + iterator) + " N\n";
                String other = "create(0) 0\nopen(" + (iterator + 1) % 4 + ", 0) ok\n";
                Script.check("N .. or it was not opened", refused);
                Script.check("N .. or it was not opened, but another was", other + refused);
                Script.check("N .. or it was not opened, as the opening was refused",
                    "create(5) 0\nopen(" + iterator + ", 0) K\nopen(" + iterator + ", 1) N\n" + refused);
            }
        }
    }

    private static void wrongKind() {
        for (int i = 0; i < CALLS_AND_KINDS.length; i += 2) {
            for (int kind = 0; kind <= 7; kind++) {
                String call = CALLS_AND_KINDS[i].replace("C", "" + kind);
                if (CALLS_AND_KINDS[i + 1].indexOf('0' + kind) < 0) {
                    Script.check("K .. is of none of the kinds that are named", ONE_OF_EACH + call + " K\n");
                } else {
                    isNotRefusedAsWrongKind(call);
                }
            }
        }
    }

    private static void isNotRefusedAsWrongKind(String call) {
        String got = Script.lastAnswer(ONE_OF_EACH + call + " ?\n");
        boolean refused = got.equals("throws.UnsupportedOperationException")
            || got.equals("throws.IndexOutOfBoundsException") || got.equals("throws.RuntimeException");
        Script.compare("K .. not for a kind that is named: " + call, refused ? got : "", "");
    }

    private static void wrongKindForIterator() {
        for (int kind = 0; kind <= 7; kind++) {
            if (kind != 5) {
                boolean isMap = "2347".indexOf('0' + kind) >= 0;
                String opened = ONE_OF_EACH + "open(2, " + kind + ") ok\n";
                Script.check("K .. what an iterator goes over", opened
                    + "next(2, false) " + (isMap ? "K" : "NONE") + "\n"
                    + "next(2, true) NONE\n"
                    + "left(2) 0\n"
                    + "erase(2) ARG\n"
                    + "assign(2, 5) ARG\n"
                    + "plant(2, 5) " + (isMap ? "K" : "ok") + "\n");
            }
        }
    }

    private static void staleList() {
        for (int part = 1; part <= 2; part++) {
            for (String call : new String[] {
                "size(C)", "view(C, 0, 0)", "get(C, 0)", "set(C, 0, 5)", "insert(C, 0, 5)", "remove(C, 0)",
                "sort(C, 0)", "sift(C, 1, 0)", "sift(C, 9, 8)", "same(C, 0)", "same(0, C)", "same(C, C)", "open(0, C)",
            }) {
                Script.check("S .. a list .. is stale", STALE_PART + call.replace("C", "" + part) + " S\n");
            }
        }
    }

    private static void staleIterator() {
        String[] list = {"next(I, true)", "next(I, false)", "left(I)", "erase(I)", "assign(I, 5)", "plant(I, 5)"};
        String[] map = {"next(I, true)", "left(I)", "erase(I)", "assign(I, 5)"};
        for (String call : list) {
            String refused = call.replace("I", "1") + " S\n";
            Script.check("S .. or the iterator .. is stale: over a list", Runs.list(0, 1, 1, 2, 3)
                + "open(1, 0) ok\nnext(1, true) 1\nremove(0, 2) 3\n" + refused);
            Script.check("S .. or what an iterator goes over .. is stale: a PART", Runs.list(0, 1, 1, 2, 3)
                + "view(0, 0, 3) 1\nopen(1, 1) ok\nnext(1, true) 1\nsort(0, 0) ok\n" + refused);
            Script.check("S .. or what an iterator goes over .. is stale: a PART of a stale PART",
                Runs.list(0, 1, 1, 2, 3) + "view(0, 0, 3) 1\nview(1, 0, 3) 2\nopen(1, 2) ok\nnext(1, true) 1\n"
                + "insert(1, 0, 7) ok\n" + refused);
        }
        for (String call : map) {
            for (int kind = 2; kind <= 4; kind++) {
                Script.check("S .. or the iterator .. is stale: over a map", Runs.map(0, kind, 1, 2, 3)
                    + "open(1, 0) ok\nnext(1, true) 1\ndrop(0, 3) 30\n" + call.replace("I", "1") + " S\n");
            }
        }
    }

    private static void notStale() {
        Script.check("S is not named by kind, nor is it by what only others name", STALE_PART + """
            kind(1) 6
            kind(2) 6
            room(1) K
            put(1, 0, 0) K
            size(0) 3
            """);
        Script.check("a stale iterator may be opened anew", Runs.list(0, 0, 1, 2) + """
            open(0, 0) ok
            remove(0, 0) 1
            next(0, true) S
            open(0, 0) ok
            next(0, true) 2
            """);
        Script.check("a RANGE is never stale, whatever became of its base", Runs.map(0, 4, 1, 2, 3) + """
            view(0, 1, 2) 1
            view(1, 2, 5) 2
            sift(0, 1, 0) 3
            size(1) 0
            size(2) 0
            put(0, 2, 5) true
            size(1) 1
            same(1, 2) true
            open(0, 2) ok
            next(0, true) 2
            """);
    }

    private static void firstOfAll() {
        Script.check("The first one that applies: N before the arguments", """
            view(0, 1, 0) N
            sort(0, 3) N
            near(0, 0, 4) N
            sift(0, 0, 0) N
            get(0, -1) N
            set(0, -1, 0) N
            insert(0, -1, 0) N
            remove(0, -1) N
            next(0, false) N
            open(4, 0) N
            open(0, 0) N
            same(0, 0) N
            """);
        Script.check("The first one that applies: N of the one container before S of the other", STALE_PART + """
            same(1, 3) N
            same(3, 1) N
            same(1, -1) N
            open(4, 1) N
            open(-1, 2) N
            """);
        Script.check("The first one that applies: N of the iterator before K of the container", """
            create(5) 0
            open(4, 0) N
            open(0, 0) K
            """);
    }

    private static void containersFirst() {
        String ten = STALE_PART + """
            create(2) 3
            create(3) 4
            create(5) 5
            create(4) 6
            view(6, 0, 9) 7
            create(0) 8
            create(0) 9
            """;
        Script.check("create: IllegalArgumentException before IllegalStateException", ten + """
            create(6) ARG
            create(-1) ARG
            create(0) F
            create(5) F
            """);
        Script.check("view: N, K, S, IllegalArgumentException, all before IllegalStateException", ten + """
            view(10, 0, 0) N
            view(-1, 1, 0) N
            view(3, 0, 0) K
            view(4, 1, 0) K
            view(5, 0, 0) K
            view(1, 0, 0) S
            view(2, 1, 0) S
            view(0, -1, 0) ARG
            view(0, 0, 4) ARG
            view(0, 2, 1) ARG
            view(6, 1, 0) ARG
            view(7, 1, 0) ARG
            view(0, 0, 3) F
            view(6, 0, 0) F
            view(7, 0, 0) F
            """);
        Script.check("view: S before IllegalArgumentException", STALE_PART + """
            view(1, -1, 0) S
            view(1, 0, 9) S
            view(2, 1, 0) S
            """);
        Script.check("view: K before IllegalArgumentException", ONE_OF_EACH + """
            view(2, 1, 0) K
            view(3, 1, 0) K
            view(5, 1, 0) K
            """);
        Script.check("sift: K, then S, then IllegalArgumentException", STALE_PART + """
            create(5) 3
            sift(3, 0, 0) K
            sift(1, 0, 0) S
            sift(0, 0, 0) ARG
            """);
    }

    private static void listsFirst() {
        Script.check("get and set: K before NoSuchElementException", ONE_OF_EACH + """
            get(2, -1) K
            get(5, 0) K
            set(4, -1, 0) K
            set(5, 0, 0) K
            """);
        Script.check("get, set, insert and remove: S before NoSuchElementException", STALE_PART + """
            get(1, -1) S
            get(1, 3) S
            set(1, -1, 0) S
            set(1, 3, 0) S
            insert(1, -1, 0) S
            insert(1, 4, 0) S
            remove(1, -1) S
            remove(1, 3) S
            """);
        Script.check("insert and remove: K before NoSuchElementException", ONE_OF_EACH + """
            insert(2, -1, 0) K
            insert(7, 9, 0) K
            remove(3, -1) K
            remove(4, 9) K
            """);
        Script.check("sort: K, then S, then IllegalArgumentException", STALE_PART + """
            create(5) 3
            sort(3, 3) K
            sort(1, 3) S
            sort(1, -1) S
            sort(0, 3) ARG
            """);
    }

    private static void fullLast() {
        String full = Runs.list(0, 0, Runs.upTo(23)) + "view(0, 0, 1) 1\nopen(0, 0) ok\ninsert(0, 0, 9) ok\n";
        Script.check("insert: S before F", full + """
            insert(1, 0, 5) S
            insert(1, 9, 5) S
            insert(0, 0, 5) F
            """);
        Script.check("insert: NoSuchElementException before F", full + """
            insert(0, 25, 5) NONE
            insert(0, -1, 5) NONE
            insert(0, 24, 5) F
            """);
        Script.check("insert: NoSuchElementException before F, in a PART", full + """
            view(0, 1, 3) 2
            insert(2, 3, 5) NONE
            insert(2, -1, 5) NONE
            insert(2, 2, 5) F
            """);
        Script.check("insert: K before F", Runs.map(0, 2, Runs.upTo(24)) + "insert(0, 0, 5) K\n");
        Script.check("plant: S before F", full + "plant(0, 5) S\n");
        Script.check("plant: K before F", Runs.map(0, 4, Runs.upTo(24)) + "open(0, 0) ok\nplant(0, 5) K\n");
        Script.check("put and merge: K before F", Runs.list(0, 1, Runs.upTo(24)) + """
            put(0, 99, 5) K
            merge(0, 99, 5) K
            """);
        Script.check("put and merge: IllegalArgumentException before F", Runs.map(0, 4, Runs.upTo(24)) + """
            view(0, 20, 30) 1
            put(1, 31, 5) ARG
            merge(1, 31, 5) ARG
            put(1, 19, 5) ARG
            merge(1, 19, 5) ARG
            put(1, 30, 5) F
            merge(1, 30, 5) F
            put(1, 20, 5) false
            merge(1, 20, 5) 10
            """);
    }

    private static void mapsFirst() {
        Script.check("near: K, then IllegalArgumentException, then NoSuchElementException", ONE_OF_EACH + """
            near(2, 0, 4) K
            near(0, 0, -1) K
            near(4, 0, 4) ARG
            near(4, 0, -1) ARG
            near(7, 0, 4) ARG
            near(4, 0, 3) NONE
            near(7, 0, 0) NONE
            """);
        Script.check("value and drop: K before NoSuchElementException", ONE_OF_EACH + """
            value(0, 1) K
            value(5, 1) K
            drop(6, 1) K
            drop(5, 1) K
            """);
    }

    private static void iteratorsFirst() {
        Script.check("next: K before S and before NoSuchElementException", """
            create(2) 0
            open(0, 0) ok
            next(0, false) K
            put(0, 1, 1) true
            next(0, false) K
            next(0, true) S
            """);
        Script.check("next: S before NoSuchElementException", """
            create(0) 0
            insert(0, 0, 1) ok
            open(0, 0) ok
            remove(0, 0) 1
            next(0, true) S
            next(0, false) S
            open(0, 0) ok
            next(0, true) NONE
            """);
        Script.check("erase and assign: S before IllegalArgumentException", """
            create(0) 0
            open(0, 0) ok
            insert(0, 0, 1) ok
            erase(0) S
            assign(0, 5) S
            open(0, 0) ok
            erase(0) ARG
            assign(0, 5) ARG
            """);
        Script.check("plant: K before S", """
            create(4) 0
            view(0, 0, 9) 1
            open(0, 1) ok
            put(0, 1, 1) true
            plant(0, 5) K
            """);
    }
}
