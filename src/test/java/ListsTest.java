/** Promises 6 to 10: lists, and the heap. */
public final class ListsTest {
    public static void main(String[] args) {
        get();
        set();
        insert();
        insertWhenFull();
        insertRefuses();
        remove();
        heap();
        sort();
        sortThroughParts();
        sortRefuses();
        Script.end();
    }

    private static void get() {
        Script.check("promise 6", """
            create(0) 0
            insert(0, 0, MIN) ok
            insert(0, 1, MAX) ok
            get(0, 0) MIN
            get(0, 1) MAX
            get(0, 2) NONE
            get(0, -1) NONE
            get(0, MIN) NONE
            get(0, MAX) NONE
            view(0, 1, 2) 1
            get(1, 0) MAX
            get(1, 1) NONE
            get(1, -1) NONE
            """);
        Script.check("promise 6, N, K, S, then the place", """
            get(0, 0) N
            create(2) 0
            create(3) 1
            create(4) 2
            view(2, 0, 1) 3
            create(5) 4
            get(0, 0) K
            get(1, 0) K
            get(2, 0) K
            get(3, 0) K
            get(4, 0) K
            create(1) 5
            view(5, 0, 0) 6
            get(6, 0) NONE
            insert(5, 0, 1) ok
            get(6, 9) S
            get(7, 0) N
            """);
    }

    private static void set() {
        Script.check("promise 7, also through parts of parts, and it is no change", """
            create(1) 0
            insert(0, 0, 1) ok
            insert(0, 1, 2) ok
            insert(0, 2, 3) ok
            view(0, 1, 3) 1
            view(1, 1, 2) 2
            open(0, 0) ok
            set(2, 0, 33) 3
            set(0, 2, 34) 33
            get(2, 0) 34
            get(1, 1) 34
            left(0) 3
            size(2) 1
            """);
        Script.check("promise 7, N, K, S, then the place", """
            set(0, 0, 1) N
            create(4) 0
            set(0, 0, 1) K
            create(5) 1
            set(1, 0, 1) K
            create(0) 2
            insert(2, 0, 5) ok
            set(2, 1, 1) NONE
            set(2, -1, 1) NONE
            get(2, 0) 5
            view(2, 0, 1) 3
            set(3, 1, 1) NONE
            remove(2, 0) 5
            set(3, 1, 1) S
            set(3, 0, 1) S
            set(2, 0, 1) NONE
            """);
    }

    private static void insert() {
        Script.check("promise 8, what is there and behind moves", """
            create(0) 0
            insert(0, 0, 5) ok
            insert(0, 1, 7) ok
            insert(0, 1, 6) ok
            insert(0, 0, 4) ok
            get(0, 0) 4
            get(0, 1) 5
            get(0, 2) 6
            get(0, 3) 7
            view(0, 1, 2) 1
            insert(1, 1, 99) ok
            get(1, 0) 5
            get(1, 1) 99
            get(0, 2) 99
            get(0, 3) 6
            insert(1, 0, 98) ok
            get(0, 1) 98
            size(1) 3
            size(0) 6
            """);
    }

    private static void insertWhenFull() {
        Script.check("promise 8, 24 numbers, for each kind that it is for", """
            create(0) 0
            create(1) 1
            create(5) 2
            24 * insert(0, 0, 3) ok
            24 * insert(1, 0, 3) ok
            24 * insert(2, 0, 3) ok
            insert(0, 0, 4) F
            insert(1, 24, 4) F
            insert(2, 0, 4) F
            insert(0, 25, 4) NONE
            insert(1, -1, 4) NONE
            size(0) 24
            size(1) 24
            size(2) 24
            get(0, 0) 3
            get(1, 23) 3
            view(0, 0, 0) 3
            insert(3, 0, 4) F
            insert(3, 1, 4) NONE
            size(3) 0
            remove(0, 0) 3
            insert(3, 1, 4) S
            insert(0, 23, 4) ok
            get(0, 23) 4
            """);
    }

    private static void insertRefuses() {
        Script.check("promise 8, N, K, S, then the place", """
            insert(0, 0, 1) N
            create(2) 0
            create(3) 1
            create(4) 2
            view(2, 0, 9) 3
            insert(0, 5, 1) K
            insert(1, 0, 1) K
            insert(2, 0, 1) K
            insert(3, 0, 1) K
            create(0) 4
            insert(4, 1, 1) NONE
            insert(4, -1, 1) NONE
            insert(4, MAX, 1) NONE
            insert(4, MIN, 1) NONE
            size(4) 0
            view(4, 0, 0) 5
            insert(5, 1, 1) NONE
            insert(4, 0, 1) ok
            insert(5, 1, 1) S
            insert(5, 0, 1) S
            size(4) 1
            """);
    }

    private static void remove() {
        Script.check("promise 9, lists", """
            create(1) 0
            insert(0, 0, 1) ok
            insert(0, 1, 2) ok
            insert(0, 2, 3) ok
            insert(0, 3, 4) ok
            remove(0, 1) 2
            get(0, 1) 3
            size(0) 3
            view(0, 1, 3) 1
            remove(1, 1) 4
            size(1) 1
            size(0) 2
            remove(1, 1) NONE
            remove(1, -1) NONE
            remove(1, 0) 3
            remove(1, 0) NONE
            remove(0, 0) 1
            remove(0, 0) NONE
            remove(1, 0) S
            """);
        Script.check("promise 9, N and K", """
            remove(0, 0) N
            create(2) 0
            create(3) 1
            create(4) 2
            view(2, 0, 9) 3
            put(0, 0, 0) true
            put(2, 0, 0) true
            remove(0, 0) K
            remove(1, 0) K
            remove(2, 0) K
            remove(3, 0) K
            size(0) 1
            size(2) 1
            """);
    }

    private static void heap() {
        Script.check("promises 8 and 9, a heap gives the least one, whatever the place", """
            create(5) 0
            remove(0, 0) NONE
            insert(0, MAX, 5) ok
            insert(0, -1, MIN) ok
            insert(0, 0, MAX) ok
            insert(0, 7, 5) ok
            insert(0, MIN, -5) ok
            insert(0, 0, 0) ok
            size(0) 6
            remove(0, MAX) MIN
            remove(0, -9) -5
            remove(0, 3) 0
            insert(0, 0, 1) ok
            remove(0, 3) 1
            remove(0, 3) 5
            remove(0, 3) 5
            size(0) 1
            remove(0, 3) MAX
            remove(0, 0) NONE
            size(0) 0
            """);
    }

    private static void sort() {
        Script.check("promise 10, rising and falling", """
            create(0) 0
            insert(0, 0, 3) ok
            insert(0, 1, MIN) ok
            insert(0, 2, MAX) ok
            insert(0, 3, 3) ok
            insert(0, 4, -1) ok
            sort(0, 0) ok
            get(0, 0) MIN
            get(0, 1) -1
            get(0, 2) 3
            get(0, 3) 3
            get(0, 4) MAX
            sort(0, 1) ok
            get(0, 0) MAX
            get(0, 1) 3
            get(0, 3) -1
            get(0, 4) MIN
            """);
        Script.check("promise 10, by the number modulo 10, equal ones as they stand", """
            create(1) 0
            insert(0, 0, 31) ok
            insert(0, 1, -1) ok
            insert(0, 2, 21) ok
            insert(0, 3, -9) ok
            insert(0, 4, 10) ok
            insert(0, 5, 11) ok
            insert(0, 6, -10) ok
            insert(0, 7, 8) ok
            sort(0, 2) ok
            get(0, 0) 10
            get(0, 1) -10
            get(0, 2) 31
            get(0, 3) 21
            get(0, 4) -9
            get(0, 5) 11
            get(0, 6) 8
            get(0, 7) -1
            """);
        Script.check("promise 10, each sorting is a change, of nothing too", """
            create(0) 0
            view(0, 0, 0) 1
            open(0, 0) ok
            sort(1, 0) ok
            left(0) S
            size(1) 0
            sort(0, 0) ok
            size(1) S
            """);
    }

    private static void sortThroughParts() {
        Script.check("promise 10, a part sorts only what it shows", """
            create(0) 0
            insert(0, 0, 5) ok
            insert(0, 1, 4) ok
            insert(0, 2, 3) ok
            insert(0, 3, 2) ok
            insert(0, 4, 1) ok
            view(0, 1, 5) 1
            view(1, 0, 3) 2
            view(0, 0, 5) 3
            sort(2, 0) ok
            get(0, 0) 5
            get(0, 1) 2
            get(0, 2) 3
            get(0, 3) 4
            get(0, 4) 1
            size(2) 3
            size(1) 4
            size(3) S
            sort(1, 1) ok
            get(0, 0) 5
            get(0, 1) 4
            get(0, 4) 1
            size(2) S
            """);
    }

    private static void sortRefuses() {
        Script.check("promise 10, N, K, S, then how", """
            sort(0, 3) N
            create(5) 0
            create(2) 1
            create(4) 2
            sort(0, 3) K
            sort(1, 0) K
            sort(2, 0) K
            create(0) 3
            insert(3, 0, 2) ok
            insert(3, 1, 1) ok
            view(3, 0, 2) 4
            sort(3, 3) ARG
            sort(3, -1) ARG
            sort(4, MAX) ARG
            size(4) 2
            get(3, 0) 2
            sort(3, 0) ok
            sort(4, 3) S
            sort(4, 0) S
            """);
    }
}
