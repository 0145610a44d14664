/** Promises 21 to 26: iterators. */
public final class IteratorsTest {
    public static void main(String[] args) {
        open();
        openRefuses();
        next();
        nextRefuses();
        left();
        eraseFromLists();
        eraseFromMaps();
        eraseRefuses();
        assign();
        assignRefuses();
        plant();
        plantRefuses();
        stale();
        Script.end();
    }

    private static void open() {
        Script.check("promise 21, each stands before all, and anew when it is opened again", """
            create(0) 0
            insert(0, 0, 1) ok
            insert(0, 1, 2) ok
            open(0, 0) ok
            open(3, 0) ok
            next(0, true) 1
            left(0) 1
            left(3) 2
            open(0, 0) ok
            left(0) 2
            erase(0) ARG
            next(0, false) NONE
            insert(0, 0, 0) ok
            left(0) S
            open(0, 0) ok
            next(0, true) 0
            left(3) S
            create(4) 1
            open(0, 1) ok
            left(0) 0
            """);
    }

    private static void openRefuses() {
        Script.check("promise 21, N, K, S, and then an open one stays as it was", """
            open(0, 0) N
            create(5) 0
            open(4, 0) N
            open(-1, 0) N
            open(MAX, 0) N
            open(0, 1) N
            open(0, 0) K
            left(0) N
            create(0) 1
            insert(1, 0, 5) ok
            insert(1, 1, 6) ok
            view(1, 0, 1) 2
            remove(1, 1) 6
            open(1, 1) ok
            next(1, true) 5
            open(1, 2) S
            open(4, 2) N
            open(1, 0) K
            open(1, 9) N
            assign(1, 7) 5
            left(1) 0
            """);
    }

    private static void next() {
        Script.check("promise 22, forth and back over a list", """
            create(1) 0
            insert(0, 0, 1) ok
            insert(0, 1, 2) ok
            open(1, 0) ok
            next(1, false) NONE
            next(1, true) 1
            next(1, true) 2
            next(1, true) NONE
            next(1, false) 2
            next(1, false) 1
            next(1, false) NONE
            next(1, true) 1
            set(0, 1, 9) 2
            next(1, true) 9
            """);
        Script.check("promise 22, over a part and a range only what they show", """
            create(0) 0
            insert(0, 0, 1) ok
            insert(0, 1, 2) ok
            insert(0, 2, 3) ok
            view(0, 1, 2) 1
            open(0, 1) ok
            next(0, false) NONE
            next(0, true) 2
            next(0, true) NONE
            next(0, false) 2
            create(4) 2
            put(2, 9, 0) true
            put(2, 5, 0) true
            put(2, 7, 0) true
            view(2, 6, 8) 3
            open(0, 3) ok
            next(0, true) 7
            next(0, true) NONE
            """);
    }

    private static void nextRefuses() {
        Script.check("promise 22, N, K, S, then none", """
            next(0, true) N
            next(4, true) N
            next(-1, false) N
            create(2) 0
            open(0, 0) ok
            next(0, true) NONE
            next(0, false) K
            put(0, 1, 1) true
            next(0, true) S
            next(0, false) K
            create(3) 1
            open(0, 1) ok
            next(0, false) K
            create(4) 2
            open(0, 2) ok
            next(0, false) K
            view(2, 0, 0) 3
            open(0, 3) ok
            next(0, false) K
            create(0) 4
            open(0, 4) ok
            insert(4, 0, 1) ok
            next(0, true) S
            next(0, false) S
            """);
        Script.check("promise 22, where there is none the latest one stays", """
            create(0) 0
            insert(0, 0, 8) ok
            open(0, 0) ok
            next(0, true) 8
            next(0, true) NONE
            assign(0, 9) 8
            erase(0) ok
            size(0) 0
            """);
    }

    private static void left() {
        Script.check("promise 23", """
            left(0) N
            left(-1) N
            left(4) N
            create(4) 0
            put(0, 1, 0) true
            put(0, 2, 0) true
            put(0, 3, 0) true
            view(0, 2, 9) 1
            open(0, 0) ok
            open(1, 1) ok
            left(0) 3
            left(1) 2
            next(1, true) 2
            left(1) 1
            put(0, 3, 7) false
            left(1) 1
            drop(0, 1) 0
            left(0) S
            left(1) S
            left(2) N
            """);
    }

    private static void eraseFromLists() {
        Script.check("promise 24, it stands where the latest one was, forth and back", """
            create(0) 0
            insert(0, 0, 1) ok
            insert(0, 1, 2) ok
            insert(0, 2, 3) ok
            insert(0, 3, 4) ok
            open(0, 0) ok
            next(0, true) 1
            next(0, true) 2
            erase(0) ok
            erase(0) ARG
            left(0) 2
            next(0, true) 3
            next(0, false) 3
            erase(0) ok
            left(0) 1
            next(0, true) 4
            next(0, false) 4
            next(0, false) 1
            erase(0) ok
            left(0) 1
            size(0) 1
            get(0, 0) 4
            """);
        Script.check("promise 24, through a part: it, and what it is of, grow shorter and are not stale", """
            create(1) 0
            insert(0, 0, 1) ok
            insert(0, 1, 2) ok
            insert(0, 2, 3) ok
            insert(0, 3, 4) ok
            view(0, 1, 4) 1
            view(1, 1, 3) 2
            view(1, 0, 1) 3
            open(0, 2) ok
            open(1, 1) ok
            next(0, true) 3
            erase(0) ok
            left(0) 1
            size(2) 1
            size(1) 2
            size(0) 3
            size(3) S
            left(1) S
            next(0, true) 4
            """);
    }

    private static void eraseFromMaps() {
        Script.check("promise 24, a key goes with its value, of each kind of map", """
            create(3) 0
            put(0, 3, 30) true
            put(0, 1, 10) true
            put(0, 2, 20) true
            open(0, 0) ok
            next(0, true) 3
            next(0, true) 1
            erase(0) ok
            next(0, true) 2
            has(0, 1) false
            value(0, 3) 30
            create(4) 1
            put(1, 1, 10) true
            put(1, 2, 20) true
            put(1, 3, 30) true
            view(1, 2, 3) 2
            open(1, 2) ok
            open(2, 1) ok
            next(1, true) 2
            erase(1) ok
            left(1) 1
            next(1, true) 3
            left(2) S
            size(1) 2
            has(1, 2) false
            value(1, 1) 10
            """);
    }

    private static void eraseRefuses() {
        Script.check("promise 24, N, S, then no latest one", """
            erase(0) N
            erase(4) N
            erase(-1) N
            create(0) 0
            insert(0, 0, 1) ok
            open(0, 0) ok
            erase(0) ARG
            plant(0, 5) ok
            erase(0) ARG
            next(0, true) 1
            insert(0, 0, 3) ok
            erase(0) S
            open(0, 0) ok
            insert(0, 0, 3) ok
            erase(0) S
            size(0) 4
            """);
    }

    private static void assign() {
        Script.check("promise 25, numbers; the latest one stays the latest", """
            create(0) 0
            insert(0, 0, 1) ok
            insert(0, 1, 2) ok
            view(0, 1, 2) 1
            open(0, 0) ok
            open(1, 1) ok
            next(0, true) 1
            assign(0, 10) 1
            assign(0, 11) 10
            get(0, 0) 11
            next(1, true) 2
            next(1, false) 2
            assign(1, 20) 2
            get(0, 1) 20
            get(1, 0) 20
            left(0) 1
            next(0, true) 20
            """);
        Script.check("promise 25, values of keys; in a RECENT the key stays where it is", """
            create(3) 0
            put(0, 1, 10) true
            put(0, 2, 20) true
            open(0, 0) ok
            open(1, 0) ok
            next(0, true) 1
            assign(0, 11) 10
            left(1) 2
            next(1, true) 1
            next(0, true) 2
            value(0, 2) 20
            value(0, 1) 11
            create(4) 1
            put(1, 1, 10) true
            put(1, 2, 20) true
            view(1, 2, 2) 2
            open(0, 2) ok
            next(0, true) 2
            assign(0, -5) 20
            value(1, 2) -5
            has(1, -5) false
            create(2) 3
            put(3, 8, 80) true
            open(0, 3) ok
            next(0, true) 8
            assign(0, 81) 80
            value(3, 8) 81
            """);
    }

    private static void assignRefuses() {
        Script.check("promise 25, N, S, then no latest one", """
            assign(0, 1) N
            assign(4, 1) N
            create(0) 0
            insert(0, 0, 1) ok
            open(0, 0) ok
            assign(0, 5) ARG
            next(0, true) 1
            erase(0) ok
            assign(0, 5) ARG
            plant(0, 6) ok
            assign(0, 5) ARG
            insert(0, 0, 7) ok
            assign(0, 5) S
            get(0, 0) 7
            get(0, 1) 6
            open(0, 0) ok
            next(0, true) 7
            sort(0, 0) ok
            assign(0, 5) S
            """);
    }

    private static void plant() {
        Script.check("promise 26, it stands behind what it planted", """
            create(1) 0
            open(0, 0) ok
            plant(0, 1) ok
            plant(0, 2) ok
            left(0) 0
            next(0, false) 2
            plant(0, 5) ok
            left(0) 1
            next(0, true) 2
            get(0, 0) 1
            get(0, 1) 5
            get(0, 2) 2
            """);
        Script.check("promise 26, through a part of a part", """
            create(0) 0
            insert(0, 0, 1) ok
            insert(0, 1, 2) ok
            insert(0, 2, 3) ok
            view(0, 1, 3) 1
            view(1, 1, 1) 2
            open(0, 2) ok
            plant(0, 7) ok
            plant(0, 8) ok
            left(0) 0
            size(2) 2
            size(1) 4
            size(0) 5
            get(0, 2) 7
            get(0, 3) 8
            get(0, 4) 3
            room(0) 6
            """);
    }

    private static void plantRefuses() {
        Script.check("promise 26, N, K, S, F", """
            plant(0, 1) N
            plant(4, 1) N
            create(2) 0
            open(0, 0) ok
            plant(0, 1) K
            put(0, 1, 1) true
            plant(0, 1) K
            create(4) 1
            view(1, 0, 9) 2
            open(1, 2) ok
            plant(1, 1) K
            create(0) 3
            23 * insert(3, 0, 1) ok
            open(2, 3) ok
            insert(3, 0, 1) ok
            plant(2, 1) S
            open(2, 3) ok
            next(2, true) 1
            plant(2, 5) F
            left(2) 23
            assign(2, 9) 1
            view(3, 0, 0) 4
            open(3, 4) ok
            plant(3, 1) F
            size(3) 24
            """);
    }

    private static void stale() {
        Script.check("an iterator notices what another one changed", """
            create(0) 0
            insert(0, 0, 1) ok
            insert(0, 1, 2) ok
            open(0, 0) ok
            open(1, 0) ok
            next(0, true) 1
            next(1, true) 1
            erase(0) ok
            next(1, true) S
            left(1) S
            left(0) 1
            plant(0, 4) ok
            left(0) 1
            open(1, 0) ok
            plant(1, 5) ok
            left(0) S
            left(1) 2
            """);
        Script.check("an iterator over a part is stale through a part of it, though the part is not", """
            create(0) 0
            insert(0, 0, 1) ok
            view(0, 0, 1) 1
            view(1, 0, 1) 2
            open(0, 1) ok
            insert(2, 0, 9) ok
            size(1) 2
            left(0) S
            open(0, 1) ok
            next(0, true) 9
            insert(0, 0, 3) ok
            next(0, true) S
            open(0, 1) S
            """);
        Script.check("a key that comes into a full RECENT, or goes, is noticed", """
            create(3) 0
            put(0, 1, 1) true
            put(0, 2, 2) true
            open(0, 0) ok
            put(0, 3, 3) true
            left(0) S
            open(0, 0) ok
            drop(0, 3) 3
            left(0) S
            """);
    }
}
