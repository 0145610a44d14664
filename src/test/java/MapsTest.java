/** Promises 11 to 18: maps, and the room of rows and tables. */
public final class MapsTest {
    public static void main(String[] args) {
        put();
        putWhenFull();
        putRecent();
        putRefuses();
        merge();
        mergeRefuses();
        has();
        value();
        valueOfRecent();
        drop();
        near();
        nearRefuses();
        roomOfRows();
        roomOfTables();
        bucket();
        Script.end();
    }

    private static void put() {
        Script.check("promise 11, a value is set anew and its key keeps its place", """
            create(2) 0
            put(0, 5, 50) true
            put(0, -1, 10) true
            put(0, 7, 70) true
            put(0, 5, 51) false
            value(0, 5) 51
            open(0, 0) ok
            put(0, -1, 11) false
            next(0, true) 5
            next(0, true) -1
            next(0, true) 7
            drop(0, 5) 51
            put(0, 5, 52) true
            open(0, 0) ok
            next(0, true) -1
            next(0, true) 7
            next(0, true) 5
            """);
        Script.check("promise 11, a tree keeps its keys in rising order", """
            create(4) 0
            put(0, 5, 1) true
            put(0, MAX, 2) true
            put(0, MIN, 3) true
            put(0, 0, 4) true
            put(0, 5, 5) false
            open(0, 0) ok
            next(0, true) MIN
            next(0, true) 0
            next(0, true) 5
            next(0, true) MAX
            left(0) 0
            value(0, MIN) 3
            value(0, MAX) 2
            """);
    }

    private static void putWhenFull() {
        Script.check("promise 11, a table with 24 keys is full for new ones", filled(2)
            + """
            put(0, 100, 1) F
            merge(0, 100, 1) F
            put(0, 3, 33) false
            merge(0, 3, 1) 34
            size(0) 24
            room(0) 32
            drop(0, 0) 0
            put(0, 100, 1) true
            size(0) 24
            """);
        Script.check("promise 11, so is a tree, also through a range", filled(4)
            + """
            view(0, 0, 10) 1
            view(0, 50, 60) 2
            put(0, 100, 1) F
            put(2, 55, 1) F
            merge(2, 55, 1) F
            put(2, 61, 1) ARG
            merge(2, 49, 1) ARG
            put(1, 4, 44) false
            value(0, 4) 44
            size(0) 24
            size(2) 0
            """);
    }

    private static String filled(int kind) {
        StringBuilder calls = new StringBuilder("create(" + kind + ") 0\n");
        for (int key = 0; key < 24; key++) {
            calls.append("put(0, " + key + ", " + key * 10 + ") true\n");
        }
        return calls.toString();
    }

    private static void putRecent() {
        Script.check("promise 11, a RECENT keeps the six keys that were used last", """
            create(3) 0
            put(0, 1, 1) true
            put(0, 2, 2) true
            put(0, 3, 3) true
            put(0, 4, 4) true
            put(0, 5, 5) true
            put(0, 6, 6) true
            size(0) 6
            room(0) 8
            put(0, 1, 10) false
            put(0, 7, 7) true
            size(0) 6
            room(0) 16
            has(0, 2) false
            merge(0, 3, 1) 4
            merge(0, 8, 8) 8
            has(0, 4) false
            open(0, 0) ok
            next(0, true) 5
            next(0, true) 6
            next(0, true) 1
            next(0, true) 7
            next(0, true) 3
            next(0, true) 8
            next(0, true) NONE
            """);
        Script.check("promise 11, in a RECENT a key that becomes the last one is a change, if it was not", """
            create(3) 0
            put(0, 1, 1) true
            put(0, 2, 2) true
            open(0, 0) ok
            put(0, 2, 5) false
            merge(0, 2, 5) 10
            left(0) 2
            put(0, 1, 5) false
            left(0) S
            open(0, 0) ok
            merge(0, 2, 1) 11
            left(0) S
            open(0, 0) ok
            next(0, true) 1
            next(0, true) 2
            value(0, 1) 5
            left(0) S
            """);
        Script.check("promise 11, a RECENT is never full", """
            create(3) 0
            put(0, 1, 0) true
            put(0, 2, 0) true
            put(0, 3, 0) true
            put(0, 4, 0) true
            put(0, 5, 0) true
            put(0, 6, 0) true
            put(0, 7, 0) true
            put(0, 8, 0) true
            put(0, 9, 0) true
            put(0, 10, 0) true
            put(0, 1, 0) true
            size(0) 6
            room(0) 16
            """);
    }

    private static void putRefuses() {
        Script.check("promise 11, N, K, then the range", """
            put(0, 1, 1) N
            create(0) 0
            create(1) 1
            create(5) 2
            view(0, 0, 0) 3
            put(0, 1, 1) K
            put(1, 1, 1) K
            put(2, 1, 1) K
            put(3, 1, 1) K
            create(4) 4
            view(4, -2, 2) 5
            put(5, 3, 1) ARG
            put(5, -3, 1) ARG
            put(5, 2, 1) true
            put(5, -2, 1) true
            put(4, 3, 1) true
            put(5, 3, 2) ARG
            value(4, 3) 1
            put(6, 0, 0) N
            put(-1, 0, 0) N
            size(4) 3
            """);
    }

    private static void merge() {
        Script.check("promise 12, the sum wraps", """
            create(2) 0
            merge(0, 1, MAX) MAX
            merge(0, 1, 1) MIN
            merge(0, 1, -1) MAX
            value(0, 1) MAX
            size(0) 1
            create(4) 1
            view(1, 0, 9) 2
            merge(2, 3, 4) 4
            merge(1, 3, 4) 8
            merge(2, 3, -9) -1
            value(1, 3) -1
            """);
        Script.check("promise 12, a new key is a change, an old one is none", """
            create(2) 0
            merge(0, 1, 1) 1
            open(0, 0) ok
            merge(0, 1, 1) 2
            left(0) 1
            merge(0, 2, 2) 2
            left(0) S
            merge(0, 3, 3) 3
            room(0) 4
            merge(0, 4, 4) 4
            room(0) 8
            """);
    }

    private static void mergeRefuses() {
        Script.check("promise 12, N, K, then the range", """
            merge(0, 1, 1) N
            create(0) 0
            create(5) 1
            merge(0, 1, 1) K
            merge(1, 1, 1) K
            create(4) 2
            view(2, 5, 6) 3
            merge(3, 4, 1) ARG
            merge(3, 7, 1) ARG
            put(2, 4, 40) true
            merge(3, 4, 1) ARG
            value(2, 4) 40
            size(3) 0
            merge(3, 6, 9) 9
            """);
    }

    private static void has() {
        Script.check("promise 13, in a range only what lies there; it uses no key of a RECENT", """
            create(4) 0
            put(0, 1, 0) true
            put(0, 5, 0) true
            view(0, 2, 9) 1
            has(0, 1) true
            has(1, 1) false
            has(1, 5) true
            has(0, 2) false
            create(3) 2
            put(2, 1, 1) true
            put(2, 2, 2) true
            open(0, 2) ok
            has(2, 1) true
            has(2, 9) false
            next(0, true) 1
            drop(2, 1) 1
            has(2, 1) false
            """);
        Script.check("promise 13, N and K", """
            has(0, 0) N
            create(0) 0
            has(0, 0) K
            create(5) 1
            has(1, 0) K
            view(0, 0, 0) 2
            has(2, 0) K
            has(3, 0) N
            create(2) 3
            has(3, 0) false
            """);
    }

    private static void value() {
        Script.check("promise 14", """
            create(2) 0
            value(0, 0) NONE
            put(0, 0, 7) true
            value(0, 0) 7
            put(0, MIN, MAX) true
            value(0, MIN) MAX
            open(0, 0) ok
            value(0, 0) 7
            next(0, true) 0
            create(4) 1
            put(1, 1, 11) true
            put(1, 3, 33) true
            view(1, 2, 3) 2
            value(2, 3) 33
            value(2, 1) NONE
            value(1, 1) 11
            """);
        Script.check("promise 14, N and K", """
            value(0, 0) N
            create(1) 0
            value(0, 0) K
            create(5) 1
            value(1, 0) K
            value(2, 0) N
            """);
    }

    private static void valueOfRecent() {
        Script.check("promise 14, the key whose value is asked for becomes the last one", """
            create(3) 0
            put(0, 1, 10) true
            put(0, 2, 20) true
            put(0, 3, 30) true
            value(0, 1) 10
            open(0, 0) ok
            value(0, 1) 10
            value(0, 9) NONE
            next(0, true) 2
            next(0, true) 3
            next(0, true) 1
            value(0, 3) 30
            left(0) S
            open(0, 0) ok
            next(0, true) 2
            next(0, true) 1
            next(0, true) 3
            value(0, 2) 20
            value(0, 1) 10
            value(0, 3) 30
            """);
    }

    private static void drop() {
        Script.check("promise 15, the order of the others stays, and the buckets do", """
            create(2) 0
            put(0, 4, 40) true
            put(0, 3, 30) true
            put(0, 2, 20) true
            put(0, 1, 10) true
            room(0) 8
            open(0, 0) ok
            drop(0, 3) 30
            left(0) S
            drop(0, 3) NONE
            has(0, 3) false
            size(0) 3
            room(0) 8
            open(0, 0) ok
            next(0, true) 4
            next(0, true) 2
            next(0, true) 1
            drop(0, 9) NONE
            left(0) 0
            value(0, 1) 10
            value(0, 2) 20
            """);
        Script.check("promise 15, from a RECENT and through a range", """
            create(3) 0
            put(0, 1, 10) true
            put(0, 2, 20) true
            drop(0, 1) 10
            size(0) 1
            create(4) 1
            put(1, 1, 11) true
            put(1, 5, 55) true
            view(1, 2, 9) 2
            drop(2, 1) NONE
            drop(2, 5) 55
            size(2) 0
            size(1) 1
            value(1, 1) 11
            """);
        Script.check("promise 15, N and K", """
            drop(0, 0) N
            create(0) 0
            drop(0, 0) K
            create(5) 1
            drop(1, 0) K
            drop(2, 0) N
            """);
    }

    private static void near() {
        Script.check("promise 16, below, not above, not below, above", """
            create(4) 0
            put(0, 10, 0) true
            put(0, -10, 0) true
            put(0, 0, 0) true
            near(0, 0, 0) -10
            near(0, 0, 1) 0
            near(0, 0, 2) 0
            near(0, 0, 3) 10
            near(0, 5, 0) 0
            near(0, 5, 1) 0
            near(0, 5, 2) 10
            near(0, 5, 3) 10
            near(0, -10, 0) NONE
            near(0, -11, 1) NONE
            near(0, 11, 2) NONE
            near(0, 10, 3) NONE
            near(0, MAX, 0) 10
            near(0, MIN, 3) -10
            near(0, MIN, 0) NONE
            near(0, MAX, 3) NONE
            """);
        Script.check("promise 16, in a range only its own keys", """
            create(4) 0
            put(0, 1, 0) true
            put(0, 3, 0) true
            put(0, 5, 0) true
            put(0, 7, 0) true
            view(0, 2, 6) 1
            near(1, 3, 0) NONE
            near(1, 2, 1) NONE
            near(1, 9, 0) 5
            near(1, 9, 1) 5
            near(1, 0, 2) 3
            near(1, 0, 3) 3
            near(1, 5, 3) NONE
            near(1, 6, 2) NONE
            near(1, 5, 2) 5
            near(1, 5, 0) 3
            """);
    }

    private static void nearRefuses() {
        Script.check("promise 16, N, K, then how", """
            near(0, 0, 9) N
            create(0) 0
            create(2) 1
            create(3) 2
            create(5) 3
            near(0, 0, 9) K
            near(1, 0, 0) K
            near(2, 0, 0) K
            near(3, 0, 0) K
            create(4) 4
            near(4, 0, 4) ARG
            near(4, 0, -1) ARG
            near(4, 0, 0) NONE
            near(4, 0, 3) NONE
            """);
    }

    private static void roomOfRows() {
        Script.check("promise 17, half of it more when there is none left; it never shrinks", """
            create(0) 0
            room(0) 4
            4 * insert(0, 0, 1) ok
            room(0) 4
            insert(0, 0, 1) ok
            room(0) 6
            insert(0, 0, 1) ok
            room(0) 6
            insert(0, 0, 1) ok
            room(0) 9
            view(0, 0, 0) 1
            2 * insert(1, 0, 1) ok
            room(0) 9
            insert(1, 0, 1) ok
            room(0) 13
            open(0, 0) ok
            3 * plant(0, 1) ok
            room(0) 13
            plant(0, 1) ok
            room(0) 19
            5 * insert(0, 0, 1) ok
            room(0) 19
            insert(0, 0, 1) ok
            room(0) 28
            4 * insert(0, 0, 1) ok
            insert(0, 0, 1) F
            room(0) 28
            sift(0, 1, 0) 24
            room(0) 28
            """);
        Script.check("promise 17, a room that is refused or freed does not grow", """
            create(0) 0
            4 * insert(0, 0, 1) ok
            insert(0, 9, 1) NONE
            room(0) 4
            remove(0, 0) 1
            insert(0, 0, 1) ok
            room(0) 4
            """);
    }

    private static void roomOfTables() {
        Script.check("promise 17, tables: twice as many if there are more keys than three quarters", """
            create(2) 0
            room(0) 4
            put(0, 1, 0) true
            put(0, 2, 0) true
            put(0, 3, 0) true
            put(0, 3, 0) false
            room(0) 4
            put(0, 4, 0) true
            room(0) 8
            put(0, 5, 0) true
            put(0, 6, 0) true
            room(0) 8
            put(0, 7, 0) true
            room(0) 16
            """);
        Script.check("promise 17, N and K", """
            room(0) N
            create(1) 0
            create(4) 1
            create(5) 2
            create(0) 3
            view(3, 0, 0) 4
            view(1, 0, 0) 5
            room(0) K
            room(1) K
            room(2) K
            room(4) K
            room(5) K
            room(3) 4
            room(6) N
            create(3) 6
            room(6) 4
            """);
    }

    private static void bucket() {
        Script.check("promise 18, the high half of a key counts too, and keys below 0", """
            create(2) 0
            bucket(0, 0) 0
            put(0, 65536, 0) true
            bucket(0, 1) 1
            bucket(0, 0) 0
            bucket(0, 5) 1
            put(0, 65537, 0) true
            bucket(0, 0) 1
            bucket(0, 4) 1
            put(0, -1, 0) true
            bucket(0, 0) 2
            bucket(0, 3) 0
            bucket(0, -1) 2
            put(0, -2, 0) true
            room(0) 8
            bucket(0, 1) 2
            bucket(0, -2) 2
            bucket(0, 8) 2
            drop(0, -1) 0
            bucket(0, 0) 1
            bucket(0, MIN) 1
            bucket(0, MAX) 1
            """);
        Script.check("promise 18, of a RECENT; it uses no key", """
            create(3) 0
            put(0, 1, 0) true
            put(0, 5, 0) true
            bucket(0, 9) 2
            open(0, 0) ok
            bucket(0, 1) 2
            next(0, true) 1
            """);
        Script.check("promise 18, N and K", """
            bucket(0, 0) N
            create(0) 0
            create(4) 1
            create(5) 2
            view(1, 0, 0) 3
            bucket(0, 0) K
            bucket(1, 0) K
            bucket(2, 0) K
            bucket(3, 0) K
            bucket(4, 0) N
            """);
    }
}
