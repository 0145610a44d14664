/** Promises 1 to 5, 19 and 20: what all kinds of containers have in common. */
public final class ContainersTest {
    public static void main(String[] args) {
        newObject();
        create();
        viewOfList();
        viewOfTree();
        viewRefuses();
        kind();
        size();
        siftLists();
        siftMaps();
        siftRefuses();
        sameLists();
        sameMaps();
        sameRefuses();
        Script.end();
    }

    private static void newObject() {
        Script.check("promise 1, no containers", """
            kind(0) N
            size(0) N
            create(0) 0
            size(0) 0
            """);
        Script.check("promise 1, no open iterators", """
            create(0) 0
            left(0) N
            left(1) N
            left(2) N
            left(3) N
            """);
    }

    private static void create() {
        Script.check("promise 2, one of each kind, all empty", """
            create(0) 0
            create(1) 1
            create(2) 2
            create(3) 3
            create(4) 4
            create(5) 5
            kind(0) 0
            kind(1) 1
            kind(2) 2
            kind(3) 3
            kind(4) 4
            kind(5) 5
            size(0) 0
            size(1) 0
            size(2) 0
            size(3) 0
            size(4) 0
            size(5) 0
            """);
        Script.check("promise 2, wrong kinds", """
            create(-1) ARG
            create(6) ARG
            create(7) ARG
            create(MIN) ARG
            create(MAX) ARG
            create(0) 0
            """);
        Script.check("promise 2, ten containers, views among them; the kind is looked at first", """
            create(0) 0
            view(0, 0, 0) 1
            create(4) 2
            view(2, 1, 5) 3
            create(5) 4
            create(5) 5
            create(5) 6
            create(5) 7
            create(5) 8
            create(5) 9
            create(5) F
            create(6) ARG
            kind(9) 5
            kind(10) N
            """);
    }

    private static void viewOfList() {
        Script.check("promise 3, what is changed through a view is changed in what it is of", """
            create(1) 0
            insert(0, 0, 10) ok
            insert(0, 1, 11) ok
            insert(0, 2, 12) ok
            insert(0, 3, 13) ok
            insert(0, 4, 14) ok
            view(0, 1, 4) 1
            kind(1) 6
            size(1) 3
            get(1, 0) 11
            get(1, 2) 13
            view(1, 1, 3) 2
            size(2) 2
            get(2, 0) 12
            set(2, 1, 93) 13
            get(0, 3) 93
            get(1, 2) 93
            insert(2, 0, 55) ok
            size(2) 3
            size(1) 4
            size(0) 6
            get(0, 2) 55
            remove(2, 2) 93
            size(1) 3
            size(0) 5
            get(0, 4) 14
            set(0, 1, 71) 11
            get(1, 0) 71
            """);
        Script.check("promise 3, empty parts and whole ones", """
            create(0) 0
            view(0, 0, 0) 1
            size(1) 0
            insert(1, 0, 4) ok
            insert(1, 1, 5) ok
            size(1) 2
            view(1, 2, 2) 2
            view(1, 0, 2) 3
            size(2) 0
            size(3) 2
            insert(2, 0, 6) ok
            get(0, 2) 6
            size(1) 3
            size(3) S
            """);
        Script.check("stale: through the list, a part above or a part beside", """
            create(0) 0
            6 * insert(0, 0, 1) ok
            view(0, 0, 5) 1
            view(1, 1, 4) 2
            view(2, 0, 2) 3
            view(1, 1, 4) 4
            insert(3, 0, 8) ok
            size(3) 3
            size(2) 4
            size(1) 6
            size(4) S
            remove(1, 0) 1
            size(1) 5
            size(2) S
            size(3) S
            view(0, 0, 1) 5
            size(1) 5
            sort(0, 0) ok
            size(1) S
            size(5) S
            size(0) 6
            """);
        Script.check("not stale: setting a number or an exception is no change", """
            create(0) 0
            insert(0, 0, 1) ok
            view(0, 0, 1) 1
            set(0, 0, 5) 1
            insert(0, 2, 5) NONE
            remove(0, 1) NONE
            sort(0, 3) ARG
            sift(0, 0, 0) ARG
            sift(0, 2, 0) 0
            get(1, 0) 5
            """);
    }

    private static void viewOfTree() {
        Script.check("promise 3, both bounds belong to a range; it is never stale", """
            create(4) 0
            put(0, 1, 10) true
            put(0, 3, 30) true
            put(0, 5, 50) true
            put(0, 7, 70) true
            view(0, 3, 5) 1
            kind(1) 7
            size(1) 2
            has(1, 3) true
            has(1, 5) true
            has(1, 1) false
            has(1, 7) false
            put(0, 4, 40) true
            size(1) 3
            put(1, 4, 44) false
            value(0, 4) 44
            drop(0, 3) 30
            size(1) 2
            view(0, 5, 5) 2
            size(2) 1
            view(0, MIN, MAX) 3
            size(3) 4
            """);
        Script.check("promise 3, a range of a range has the keys that are in both", """
            create(4) 0
            put(0, -3, 1) true
            put(0, 2, 1) true
            put(0, 6, 1) true
            put(0, 9, 1) true
            view(0, 0, 8) 1
            view(1, 3, 50) 2
            size(2) 1
            put(2, 9, 1) ARG
            put(2, 2, 1) ARG
            put(2, 8, 1) true
            size(1) 3
            view(1, -9, 2) 3
            size(3) 1
            has(3, -3) false
            view(1, 9, 20) 4
            size(4) 0
            put(4, 9, 1) ARG
            put(4, 8, 1) ARG
            has(4, 9) false
            near(4, 9, 1) NONE
            near(4, 0, 2) NONE
            view(4, MIN, MAX) 5
            size(5) 0
            sift(5, 1, 0) 0
            view(2, 4, 4) 6
            merge(6, 4, 8) 8
            value(0, 4) 8
            """);
    }

    private static void viewRefuses() {
        Script.check("promise 3, N, K, S and the arguments in their order", """
            view(0, 5, 1) N
            create(0) 0
            view(-1, 0, 0) N
            view(1, 5, 1) N
            view(0, 0, 1) ARG
            view(0, -1, 0) ARG
            view(0, 1, 0) ARG
            view(0, MIN, MAX) ARG
            3 * insert(0, 0, 2) ok
            view(0, 0, 4) ARG
            view(0, 3, 2) ARG
            view(0, 1, 3) 1
            view(1, 0, 3) ARG
            view(1, -1, 1) ARG
            insert(0, 0, 2) ok
            view(1, 2, 1) S
            create(2) 2
            create(3) 3
            create(5) 4
            view(2, 1, 0) K
            view(3, 1, 0) K
            view(4, 1, 0) K
            create(4) 5
            view(5, 3, 2) ARG
            view(5, MAX, MIN) ARG
            view(5, -2, -2) 6
            view(6, 1, 0) ARG
            create(0) 7
            create(0) 8
            create(0) 9
            view(10, 0, 0) N
            view(2, 0, 0) K
            view(1, 0, 0) S
            view(0, 1, 0) ARG
            view(0, 0, 0) F
            view(5, 0, 0) F
            """);
    }

    private static void kind() {
        Script.check("promise 4, views and stale ones too", """
            create(1) 0
            insert(0, 0, 1) ok
            view(0, 0, 1) 1
            insert(0, 0, 1) ok
            size(1) S
            kind(1) 6
            create(4) 2
            view(2, 0, 1) 3
            kind(3) 7
            kind(4) N
            kind(-1) N
            kind(MAX) N
            """);
    }

    private static void size() {
        Script.check("promise 5", """
            create(5) 0
            3 * insert(0, 0, 7) ok
            size(0) 3
            create(2) 1
            put(1, 4, 4) true
            put(1, 4, 5) false
            size(1) 1
            create(0) 2
            2 * insert(2, 0, 7) ok
            size(2) 2
            view(2, 1, 2) 3
            size(3) 1
            remove(2, 0) 7
            size(3) S
            size(2) 1
            size(4) N
            size(-1) N
            """);
    }

    private static void siftLists() {
        Script.check("promise 19, lists, numbers below 0 too", """
            create(0) 0
            insert(0, 0, -3) ok
            insert(0, 1, -2) ok
            insert(0, 2, 1) ok
            insert(0, 3, 4) ok
            insert(0, 4, 6) ok
            insert(0, 5, MIN) ok
            insert(0, 6, MAX) ok
            sift(0, 3, 1) 5
            size(0) 2
            get(0, 0) -3
            get(0, 1) 6
            insert(0, 2, MIN) ok
            sift(0, MAX, 2147483645) 0
            sift(0, MAX, 2147483646) 1
            room(0) 9
            sift(0, 2, 2) 0
            sift(0, 2, -1) 0
            sift(0, 1, 0) 2
            size(0) 0
            sift(0, 1, 0) 0
            """);
        Script.check("promise 19, a part: only what it shows goes", """
            create(1) 0
            insert(0, 0, 2) ok
            insert(0, 1, 4) ok
            insert(0, 2, 5) ok
            insert(0, 3, 6) ok
            insert(0, 4, 8) ok
            view(0, 0, 4) 1
            view(1, 1, 4) 2
            view(0, 4, 5) 3
            sift(2, 2, 0) 2
            size(2) 1
            get(2, 0) 5
            size(1) 2
            size(0) 3
            size(3) S
            get(0, 2) 8
            sift(2, 2, 0) 0
            size(1) 2
            """);
    }

    private static void siftMaps() {
        Script.check("promise 19, maps: the keys count, not the values", """
            create(2) 0
            put(0, 8, 1) true
            put(0, 3, 2) true
            put(0, 6, 3) true
            put(0, -1, 4) true
            sift(0, 2, 0) 2
            size(0) 2
            has(0, 3) true
            has(0, -1) true
            room(0) 8
            open(0, 0) ok
            next(0, true) 3
            next(0, true) -1
            sift(0, 5, 0) 0
            left(0) 0
            sift(0, 5, 4) 1
            left(0) S
            """);
        Script.check("promise 19, a range: only its own keys go", """
            create(4) 0
            put(0, 1, 0) true
            put(0, 2, 0) true
            put(0, 3, 0) true
            put(0, 4, 0) true
            put(0, 5, 0) true
            view(0, 2, 4) 1
            sift(1, 1, 0) 3
            size(0) 2
            has(0, 1) true
            has(0, 5) true
            create(3) 2
            put(2, 10, 0) true
            put(2, 20, 0) true
            put(2, 15, 0) true
            sift(2, 10, 0) 2
            has(2, 15) true
            """);
    }

    private static void siftRefuses() {
        Script.check("promise 19, N, K, S, then the argument", """
            sift(0, 0, 0) N
            create(5) 0
            sift(0, 0, 0) K
            create(0) 1
            insert(1, 0, 1) ok
            view(1, 0, 1) 2
            sift(1, 0, 0) ARG
            sift(1, -1, 0) ARG
            sift(1, MIN, 0) ARG
            sift(2, 0, 0) ARG
            insert(1, 0, 1) ok
            sift(2, 0, 0) S
            sift(2, 1, 0) S
            sift(3, 1, 0) N
            size(1) 2
            create(4) 3
            sift(3, 0, 0) ARG
            """);
    }

    private static void sameLists() {
        Script.check("promise 20, lists of all kinds, in the same order", """
            create(0) 0
            create(1) 1
            same(0, 1) true
            same(0, 0) true
            insert(0, 0, 1) ok
            same(0, 1) false
            same(1, 0) false
            insert(1, 0, 2) ok
            insert(1, 1, 1) ok
            insert(0, 1, 2) ok
            same(0, 1) false
            sort(1, 0) ok
            same(0, 1) true
            insert(0, 0, 9) ok
            view(0, 1, 3) 2
            same(2, 1) true
            same(1, 2) true
            same(2, 0) false
            """);
    }

    private static void sameMaps() {
        Script.check("promise 20, maps of all kinds, in any order", """
            create(2) 0
            create(3) 1
            create(4) 2
            view(2, 1, 2) 3
            same(0, 1) true
            put(0, 2, 20) true
            put(0, 1, 10) true
            put(1, 1, 10) true
            same(0, 1) false
            put(1, 2, 20) true
            put(2, 1, 10) true
            put(2, 2, 20) true
            same(0, 1) true
            same(1, 2) true
            same(2, 3) true
            same(3, 0) true
            put(2, 3, 30) true
            same(2, 3) false
            same(3, 2) false
            same(3, 1) true
            put(1, 2, 21) false
            same(0, 1) false
            put(0, 2, 21) false
            same(0, 1) true
            drop(0, 2) 21
            put(0, 4, 21) true
            same(0, 1) false
            """);
        Script.check("promise 20, no key of a RECENT is used by it", """
            create(3) 0
            create(2) 1
            put(0, 1, 1) true
            put(0, 2, 2) true
            put(1, 1, 1) true
            put(1, 2, 2) true
            open(0, 0) ok
            same(0, 1) true
            same(1, 0) true
            next(0, true) 1
            """);
    }

    private static void sameRefuses() {
        Script.check("promise 20, others are never the same; N before S", """
            create(0) 0
            create(2) 1
            create(5) 2
            create(5) 3
            same(0, 1) false
            same(1, 0) false
            same(2, 3) false
            same(2, 2) false
            same(0, 2) false
            same(2, 1) false
            same(4, 0) N
            same(0, 4) N
            same(-1, 0) N
            view(0, 0, 0) 4
            insert(0, 0, 1) ok
            same(4, 0) S
            same(0, 4) S
            same(4, 4) S
            same(4, 2) S
            same(1, 4) S
            same(4, 5) N
            same(5, 4) N
            """);
    }
}
