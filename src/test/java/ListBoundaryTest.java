/** The boundary cases of promises 6 to 10, each sentence by itself. The titles quote it. */
public final class ListBoundaryTest {
    /** What is no place of a list of three numbers. */
    private static final String[] NO_PLACES_OF_THREE = {"-1", "3", "4", "24", "MIN", "MAX"};

    public static void main(String[] args) {
        get();
        set();
        insertPlaces();
        insertIntoHeap();
        insertWhenFull();
        removePlaces();
        removeFromHeap();
        sortEnds();
        sortModulo();
        sortStays();
        sortParts();
        sortRefused();
        Script.end();
    }

    /** The calls on list L of 1, 2, 3: a ROW, a CHAIN, a PART from the middle of a list, and a PART of a PART. */
    private static void onEach(String title, String calls) {
        String row = Runs.list(0, 0, 1, 2, 3);
        String chain = Runs.list(0, 1, 1, 2, 3);
        String part = Runs.list(0, 0, 8, 1, 2, 3, 9) + "view(0, 1, 4) 1\n";
        String partOfPart = Runs.list(0, 1, 8, 1, 2, 3, 9) + "view(0, 0, 5) 1\nview(1, 1, 4) 2\n";
        Script.check(title + ": ROW", row + calls.replace("L", "0"));
        Script.check(title + ": CHAIN", chain + calls.replace("L", "0"));
        Script.check(title + ": PART", part + calls.replace("L", "1"));
        Script.check(title + ": PART of a PART", partOfPart + calls.replace("L", "2"));
    }

    private static void get() {
        onEach("promise 6: A number of a list: the first and the last", "get(L, 0) 1\nget(L, 1) 2\nget(L, 2) 3\n");
        for (String place : NO_PLACES_OF_THREE) {
            onEach("promise 6: NoSuchElementException if there is no such place", "get(L, " + place + ") NONE\n");
        }
        Script.check("promise 6: no such place: of an empty list, and of an empty PART of a list that is not", """
            create(0) 0
            get(0, 0) NONE
            insert(0, 0, 5) ok
            view(0, 0, 0) 1
            get(1, 0) NONE
            view(0, 1, 1) 2
            get(2, 0) NONE
            get(2, -1) NONE
            """);
        Script.check("promise 6: of a full list", Runs.list(0, 0, Runs.upTo(24)) + "get(0, 23) 23\nget(0, 24) NONE\n");
        Script.check("promise 6: the least and the greatest number", """
            create(1) 0
            insert(0, 0, MIN) ok
            insert(0, 1, MAX) ok
            get(0, 0) MIN
            get(0, 1) MAX
            """);
    }

    private static void set() {
        onEach("promise 7: Sets a number of a list: what was there: the first", "set(L, 0, 7) 1\nset(L, 0, 6) 7\n"
            + "get(L, 0) 6\nget(L, 1) 2\n");
        onEach("promise 7: Sets a number of a list: what was there: the last", "set(L, 2, 7) 3\nget(L, 2) 7\n"
            + "get(L, 1) 2\nsize(L) 3\n");
        for (String place : NO_PLACES_OF_THREE) {
            onEach("promise 7: NoSuchElementException if there is no such place", "set(L, " + place + ", 7) NONE\n");
        }
        Script.check("promise 7: no such place: of an empty list; of a full one", "create(1) 0\nset(0, 0, 1) NONE\n"
            + Runs.list(1, 0, Runs.upTo(24)) + "set(1, 24, 1) NONE\nset(1, 23, 1) 23\n");
        Script.check("promise 7: the least and the greatest number", """
            create(0) 0
            insert(0, 0, 0) ok
            set(0, 0, MIN) 0
            set(0, 0, MAX) MIN
            get(0, 0) MAX
            """);
    }

    private static void insertPlaces() {
        onEach("promise 8: at a place 0 .. size: the least", "insert(L, 0, 7) ok\n" + holds(7, 1, 2, 3));
        onEach("promise 8: at a place 0 .. size: in between", "insert(L, 2, 7) ok\n" + holds(1, 2, 7, 3));
        onEach("promise 8: (the size: behind all)", "insert(L, 3, 7) ok\n" + holds(1, 2, 3, 7));
        for (String place : new String[] {"-1", "4", "5", "25", "MIN", "MAX"}) {
            onEach("promise 8: NoSuchElementException if it is no such place", "insert(L, " + place + ", 7) NONE\n");
        }
        Script.check("promise 8: of an empty list", """
            create(1) 0
            insert(0, 1, 5) NONE
            insert(0, -1, 5) NONE
            insert(0, 0, 5) ok
            insert(0, 1, 6) ok
            """ + Runs.holds(0, 5, 6));
        Script.check("promise 8: behind all of a PART is before what follows it in its list", Runs.list(0, 0, 1, 2, 3)
            + "view(0, 0, 1) 1\ninsert(1, 1, 7) ok\n" + Runs.holds(1, 1, 7) + Runs.holds(0, 1, 7, 2, 3));
        Script.check("promise 8: 0 .. size: that of the PART", Runs.list(0, 0, 1, 2, 3) + """
            view(0, 1, 2) 1
            insert(1, 2, 7) NONE
            insert(1, -1, 7) NONE
            """);
    }

    private static String holds(int... numbers) {
        return Runs.holds(0, numbers).replace("(0", "(L");
    }

    private static void insertIntoHeap() {
        for (String place : new String[] {"0", "1", "-1", "24", "25", "MIN", "MAX"}) {
            Script.check("promise 8: (whatever the place) puts it into a HEAP",
                "create(5) 0\ninsert(0, " + place + ", 5) ok\nsize(0) 1\nremove(0, " + place + ") 5\n");
        }
    }

    private static void insertWhenFull() {
        String[] full = {Runs.list(0, 0, Runs.upTo(23)), Runs.list(0, 1, Runs.upTo(23)), Runs.list(0, 5, Runs.upTo(23))};
        for (String calls : full) {
            Script.check("promise 8: F: the 24th comes in, the 25th not",
                calls + "insert(0, 0, 5) ok\ninsert(0, 0, 5) F\nsize(0) 24\n");
        }
        Script.check("promise 8: F: whatever the place, of a HEAP", Runs.list(0, 5, Runs.upTo(24)) + """
            insert(0, -1, 5) F
            insert(0, MAX, 5) F
            remove(0, 0) 0
            """);
        Script.check("promise 8: NoSuchElementException if it is no such place; F: in that order",
            Runs.list(0, 1, Runs.upTo(24)) + """
            insert(0, 25, 5) NONE
            insert(0, -1, 5) NONE
            insert(0, 24, 5) F
            insert(0, 0, 5) F
            """);
    }

    private static void removePlaces() {
        onEach("promise 9: Removes the number at a place .. what it was: the first", "remove(L, 0) 1\n" + holds(2, 3));
        onEach("promise 9: Removes the number at a place .. what it was: in between", "remove(L, 1) 2\n" + holds(1, 3));
        onEach("promise 9: Removes the number at a place .. what it was: the last", "remove(L, 2) 3\n" + holds(1, 2));
        onEach("promise 9: until there is none", "remove(L, 0) 1\nremove(L, 0) 2\nremove(L, 0) 3\nremove(L, 0) NONE\n"
            + "size(L) 0\n");
        for (String place : NO_PLACES_OF_THREE) {
            onEach("promise 9: NoSuchElementException if there is no such place", "remove(L, " + place + ") NONE\n");
        }
        Script.check("promise 9: of an empty list; of a full one", "create(0) 0\nremove(0, 0) NONE\n"
            + Runs.list(1, 1, Runs.upTo(24)) + "remove(1, 24) NONE\nremove(1, 23) 23\nremove(1, 23) NONE\n");
        Script.check("promise 9: an empty PART removes nothing of its list", Runs.list(0, 0, 1, 2) + """
            view(0, 1, 1) 1
            remove(1, 0) NONE
            remove(1, -1) NONE
            size(0) 2
            """);
    }

    private static void removeFromHeap() {
        Script.check("promise 9: the least one of a HEAP: of equal ones, of those below 0, of the least there is", """
            create(5) 0
            insert(0, 0, MAX) ok
            insert(0, 0, 0) ok
            insert(0, 0, MIN) ok
            insert(0, 0, -1) ok
            insert(0, 0, MIN) ok
            remove(0, 0) MIN
            remove(0, 0) MIN
            remove(0, 0) -1
            remove(0, 0) 0
            remove(0, 0) MAX
            """);
        for (String place : new String[] {"0", "1", "-1", "MIN", "MAX"}) {
            Script.check("promise 9: NoSuchElementException if .. the heap is empty",
                "create(5) 0\nremove(0, " + place + ") NONE\n");
            Script.check("promise 9: (whatever the place) the least one of a HEAP; then it is empty",
                Runs.list(0, 5, 2, 1) + "remove(0, " + place + ") 1\nremove(0, " + place + ") 2\nremove(0, " + place
                + ") NONE\n");
        }
        Script.check("promise 9: the least one of a full HEAP, whose numbers came in falling", """
            create(5) 0
            12 * insert(0, 0, 9) ok
            11 * insert(0, 0, 3) ok
            insert(0, 0, 2) ok
            remove(0, 23) 2
            11 * remove(0, 23) 3
            12 * remove(0, 23) 9
            remove(0, 23) NONE
            """);
    }

    private static void sortEnds() {
        String numbers = """
            create(0) 0
            insert(0, 0, 0) ok
            insert(0, 1, MAX) ok
            insert(0, 2, MIN) ok
            insert(0, 3, -1) ok
            insert(0, 4, 1) ok
            """;
        Script.check("promise 10: rising (how = 0): the least and the greatest number", numbers + """
            sort(0, 0) ok
            get(0, 0) MIN
            get(0, 1) -1
            get(0, 2) 0
            get(0, 3) 1
            get(0, 4) MAX
            """);
        Script.check("promise 10: falling (1): the least and the greatest number", numbers + """
            sort(0, 1) ok
            get(0, 0) MAX
            get(0, 1) 1
            get(0, 2) 0
            get(0, 3) -1
            get(0, 4) MIN
            """);
        int[] rising = Runs.upTo(24);
        int[] falling = new int[24];
        for (int i = 0; i < falling.length; i++) {
            falling[i] = 23 - i;
        }
        for (int kind = 0; kind <= 1; kind++) {
            Script.check("promise 10: a full list, kind " + kind, Runs.list(0, kind, falling) + "sort(0, 0) ok\n"
                + Runs.holds(0, rising) + "sort(0, 1) ok\n" + Runs.holds(0, falling));
        }
        for (int how = 0; how <= 2; how++) {
            Script.check("promise 10: an empty list, and one of one number",
                "create(0) 0\nsort(0, " + how + ") ok\nsize(0) 0\n" + Runs.list(1, 1, 5) + "sort(1, " + how + ") ok\n"
                + Runs.holds(1, 5));
        }
    }

    private static void sortModulo() {
        Script.check("promise 10: by the number modulo 10 (0 .. 9, also for numbers below 0)",
            Runs.list(0, 0, -1, -2, -3, -4, -5, -6, -7, -8, -9, -10) + "sort(0, 2) ok\n"
            + Runs.holds(0, -10, -9, -8, -7, -6, -5, -4, -3, -2, -1));
        Script.check("promise 10: by the number modulo 10: those below 0 among the others",
            Runs.list(0, 1, 9, -5, 4, -4, 6, -11, 0) + "sort(0, 2) ok\n" + Runs.holds(0, 0, 4, -5, -4, 6, 9, -11));
        Script.check("promise 10: by the number modulo 10: the least (2) and the greatest number (7)", """
            create(0) 0
            insert(0, 0, 8) ok
            insert(0, 1, MAX) ok
            insert(0, 2, 3) ok
            insert(0, 3, MIN) ok
            insert(0, 4, 1) ok
            sort(0, 2) ok
            get(0, 0) 1
            get(0, 1) MIN
            get(0, 2) 3
            get(0, 3) MAX
            get(0, 4) 8
            """);
    }

    private static void sortStays() {
        Script.check("promise 10: those that are equal stay as they stand: modulo 10, at both ends",
            Runs.list(0, 0, 25, 5, -5, 15, 30, 0, -10, 29, -1, 9) + "sort(0, 2) ok\n"
            + Runs.holds(0, 30, 0, -10, 25, 5, -5, 15, 29, -1, 9));
        Script.check("promise 10: those that are equal stay as they stand: all of them",
            Runs.list(0, 1, 31, 1, 21, -9, 11) + "sort(0, 2) ok\n" + Runs.holds(0, 31, 1, 21, -9, 11));
        Script.check("promise 10: equal numbers, rising and falling", Runs.list(0, 1, 2, 1, 2, 1) + "sort(0, 0) ok\n"
            + Runs.holds(0, 1, 1, 2, 2) + "sort(0, 1) ok\n" + Runs.holds(0, 2, 2, 1, 1));
    }

    private static void sortParts() {
        Script.check("promise 10: Sorts a list: a PART, and not the places just beside it",
            Runs.list(0, 0, 9, 3, 2, 1, 0) + "view(0, 1, 4) 1\nsort(1, 0) ok\n" + Runs.holds(1, 1, 2, 3)
            + Runs.holds(0, 9, 1, 2, 3, 0));
        Script.check("promise 10: Sorts a list: an empty PART moves nothing",
            Runs.list(0, 0, 3, 2, 1) + "view(0, 1, 1) 1\nsort(1, 0) ok\nsize(1) 0\n" + Runs.holds(0, 3, 2, 1));
        Script.check("promise 10: Sorts a list: a PART of a PART at the end",
            Runs.list(0, 1, 5, 4, 3, 2) + "view(0, 1, 4) 1\nview(1, 1, 3) 2\nsort(2, 0) ok\n" + Runs.holds(2, 2, 3)
            + Runs.holds(1, 4, 2, 3) + Runs.holds(0, 5, 4, 2, 3));
    }

    private static void sortRefused() {
        for (String how : new String[] {"-1", "3", "4", "MIN", "MAX"}) {
            onEach("promise 10: IllegalArgumentException if there is no such how", "sort(L, " + how + ") ARG\n");
            Script.check("promise 10: IllegalArgumentException if there is no such how: of an empty list",
                "create(0) 0\nsort(0, " + how + ") ARG\n");
        }
    }
}
