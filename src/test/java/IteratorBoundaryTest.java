/** The boundary cases of promises 21 to 26, each sentence by itself. The titles quote it. */
public final class IteratorBoundaryTest {
    public static void main(String[] args) {
        openIterators();
        openAnew();
        openRefused();
        nextForth();
        nextBack();
        nextOverViews();
        left();
        eraseFromLists();
        eraseFromMaps();
        eraseRefused();
        assignNumbers();
        assignValues();
        assignRefused();
        plantPlaces();
        plantThroughParts();
        plantWhenFull();
        Script.end();
    }

    private static void openIterators() {
        for (int iterator = 0; iterator <= 3; iterator++) {
            for (int kind = 0; kind <= 4; kind++) {
                Script.check("promise 21: Opens an iterator .. over a list or map: 0 .. 3",
                    "create(" + kind + ") 0\nopen(I, 0) ok\nleft(I) 0\n".replace("I", "" + iterator));
            }
        }
        for (String iterator : new String[] {"-1", "4", "5", "MIN", "MAX"}) {
            Script.check("promise 21: N (no such iterator 0 .. 3, too)", "create(0) 0\nopen(" + iterator + ", 0) N\n");
        }
        for (String container : new String[] {"-1", "1", "9", "10", "MIN", "MAX"}) {
            Script.check("promise 21: N: no such container", "create(0) 0\nopen(0, " + container + ") N\nleft(0) N\n");
        }
    }

    private static void openAnew() {
        Script.check("promise 21: (anew): over the same one, from its start, and without a latest one",
            Runs.list(0, 0, 1, 2) + """
            open(0, 0) ok
            next(0, true) 1
            next(0, true) 2
            open(0, 0) ok
            left(0) 2
            assign(0, 5) ARG
            next(0, false) NONE
            next(0, true) 1
            """);
        Script.check("promise 21: (anew): over another one; the first one is left alone",
            Runs.list(0, 0, 1, 2) + Runs.map(1, 4, 7, 8, 9) + """
            open(0, 0) ok
            next(0, true) 1
            open(0, 1) ok
            left(0) 3
            remove(0, 0) 1
            left(0) 3
            next(0, true) 7
            """);
        Script.check("promise 21: (anew): a stale one is not stale then", Runs.list(0, 0, 1, 2) + """
            open(0, 0) ok
            sort(0, 0) ok
            left(0) S
            open(0, 0) ok
            left(0) 2
            """);
        Script.check("promise 21: (anew): the others over the same one stay as they are", Runs.list(0, 0, 1, 2) + """
            open(0, 0) ok
            next(0, true) 1
            open(1, 0) ok
            left(0) 1
            assign(0, 5) 1
            left(1) 2
            """);
    }

    private static void openRefused() {
        String opened = Runs.list(0, 0, 1, 2) + "view(0, 0, 1) 1\nremove(0, 1) 2\ncreate(5) 2\nopen(0, 0) ok\n"
            + "next(0, true) 1\n";
        Script.check("promise 21: K (a HEAP): an open iterator stays where it was", opened + """
            open(0, 2) K
            left(0) 0
            assign(0, 5) 1
            """);
        Script.check("promise 21: S: an open iterator stays where it was", opened + """
            open(0, 1) S
            left(0) 0
            assign(0, 5) 1
            """);
        Script.check("promise 21: N: an open iterator stays where it was", opened + """
            open(0, 3) N
            open(0, -1) N
            left(0) 0
            assign(0, 5) 1
            """);
        Script.check("promise 21: K (a HEAP): also one with numbers", Runs.list(0, 5, 1, 2) + "open(3, 0) K\nleft(3) N\n");
    }

    private static void nextForth() {
        for (int kind = 0; kind <= 1; kind++) {
            Script.check("promise 22: NoSuchElementException if there is none: behind the last, kind " + kind,
                Runs.list(0, kind, 1, 2) + """
                open(0, 0) ok
                next(0, true) 1
                next(0, true) 2
                next(0, true) NONE
                next(0, true) NONE
                left(0) 0
                next(0, false) 2
                """);
        }
        for (int kind = 2; kind <= 4; kind++) {
            Script.check("promise 22: NoSuchElementException if there is none: behind the last key, kind " + kind,
                Runs.map(0, kind, 1, 2) + """
                open(0, 0) ok
                next(0, true) 1
                next(0, true) 2
                next(0, true) NONE
                next(0, true) NONE
                left(0) 0
                assign(0, 5) 20
                """);
            Script.check("promise 22: NoSuchElementException if there is none: of an empty map, kind " + kind,
                "create(" + kind + ") 0\nopen(0, 0) ok\nnext(0, true) NONE\n");
        }
        Script.check("promise 22: Goes on (forth) over the next number or key: of full ones",
            Runs.list(0, 0, Runs.upTo(24)) + Runs.walks(0, Runs.upTo(24))
            + Runs.map(1, 2, Runs.upTo(24)) + Runs.walks(1, Runs.upTo(24))
            + Runs.map(2, 4, Runs.upTo(24)) + Runs.walks(2, Runs.upTo(24)));
    }

    private static void nextBack() {
        for (int kind = 0; kind <= 1; kind++) {
            Script.check("promise 22: or back over the one before: before the first there is none, kind " + kind,
                Runs.list(0, kind, 1, 2) + """
                open(0, 0) ok
                next(0, false) NONE
                next(0, false) NONE
                left(0) 2
                next(0, true) 1
                next(0, false) 1
                next(0, false) NONE
                next(0, true) 1
                """);
        }
        Script.check("promise 22: forth and back over the same one", Runs.list(0, 0, 1, 2, 3) + """
            open(0, 0) ok
            next(0, true) 1
            next(0, true) 2
            next(0, false) 2
            next(0, true) 2
            next(0, true) 3
            next(0, false) 3
            next(0, false) 2
            next(0, false) 1
            """);
        for (int kind = 2; kind <= 4; kind++) {
            Script.check("promise 22: K (back, over a map): also where there would be one, kind " + kind,
                Runs.map(0, kind, 1, 2) + """
                open(0, 0) ok
                next(0, false) K
                next(0, true) 1
                next(0, false) K
                left(0) 1
                assign(0, 5) 10
                """);
        }
        Script.check("promise 22: K (back, over a map): a RANGE", Runs.map(0, 4, 1, 2) + """
            view(0, 1, 2) 1
            open(0, 1) ok
            next(0, true) 1
            next(0, false) K
            next(0, true) 2
            """);
    }

    private static void nextOverViews() {
        Script.check("promise 22: over a PART: what is just beside it is none", Runs.list(0, 1, 1, 2, 3, 4) + """
            view(0, 1, 3) 1
            open(0, 1) ok
            next(0, false) NONE
            next(0, true) 2
            next(0, true) 3
            next(0, true) NONE
            next(0, false) 3
            next(0, false) 2
            next(0, false) NONE
            """);
        Script.check("promise 22: over an empty PART within a list", Runs.list(0, 0, 1, 2) + """
            view(0, 1, 1) 1
            open(0, 1) ok
            next(0, true) NONE
            next(0, false) NONE
            """);
        Script.check("promise 22: over a RANGE: what is just beside it is none", Runs.map(0, 4, 1, 2, 3, 4)
            + "view(0, 2, 3) 1\n" + Runs.walks(1, 2, 3));
        Script.check("promise 22: over a RANGE that shows no key", Runs.map(0, 4, 1, 4)
            + "view(0, 2, 3) 1\n" + Runs.walks(1));
    }

    private static void left() {
        Script.check("promise 23: How many .. are behind where it stands: all, some, none", Runs.list(0, 0, 1, 2) + """
            open(0, 0) ok
            left(0) 2
            next(0, true) 1
            left(0) 1
            next(0, true) 2
            left(0) 0
            next(0, false) 2
            left(0) 1
            """);
        Script.check("promise 23: of an empty list, of a full one and of a full map", "create(0) 0\nopen(0, 0) ok\nleft(0) 0\n"
            + Runs.list(1, 1, Runs.upTo(24)) + "open(0, 1) ok\nleft(0) 24\n"
            + Runs.map(2, 2, Runs.upTo(24)) + "open(0, 2) ok\nleft(0) 24\n");
        Script.check("promise 23: of a PART and of a RANGE only what they show", Runs.list(0, 0, 1, 2, 3, 4) + """
            view(0, 1, 3) 1
            open(0, 1) ok
            left(0) 2
            """ + Runs.map(2, 4, 1, 2, 3, 4) + """
            view(2, 2, 3) 3
            open(1, 3) ok
            left(1) 2
            next(1, true) 2
            next(1, true) 3
            left(1) 0
            """);
    }

    private static void eraseFromLists() {
        String opened = Runs.list(0, 0, 1, 2, 3) + "open(0, 0) ok\nnext(0, true) 1\n";
        Script.check("promise 24: The latest one goes; it stands where that was: the first", opened
            + "erase(0) ok\nleft(0) 2\nnext(0, false) NONE\nnext(0, true) 2\n" + Runs.holds(0, 2, 3));
        Script.check("promise 24: The latest one goes; it stands where that was: the last", opened
            + "next(0, true) 2\nnext(0, true) 3\nerase(0) ok\nleft(0) 0\nnext(0, true) NONE\nnext(0, false) 2\n"
            + Runs.holds(0, 1, 2));
        Script.check("promise 24: it stands where that was: behind going back over the first", opened
            + "next(0, false) 1\nerase(0) ok\nleft(0) 2\nnext(0, false) NONE\nnext(0, true) 2\n" + Runs.holds(0, 2, 3));
        Script.check("promise 24: it stands where that was: behind going back over one in between", opened
            + "next(0, true) 2\nnext(0, false) 2\nerase(0) ok\nleft(0) 1\nnext(0, true) 3\nnext(0, false) 3\n"
            + "next(0, false) 1\n" + Runs.holds(0, 1, 3));
        Script.check("promise 24: The latest one goes: until there is none", opened
            + "erase(0) ok\nnext(0, true) 2\nerase(0) ok\nnext(0, true) 3\nerase(0) ok\nnext(0, true) NONE\n"
            + "next(0, false) NONE\nsize(0) 0\n");
        Script.check("promise 24: from a PART of a PART, the only one that it shows", Runs.list(0, 1, 1, 2, 3) + """
            view(0, 0, 2) 1
            view(1, 1, 2) 2
            open(0, 2) ok
            next(0, true) 2
            erase(0) ok
            left(0) 0
            size(2) 0
            """ + Runs.holds(1, 1) + Runs.holds(0, 1, 3));
        Script.check("promise 24: from a full list, which takes one again", Runs.list(0, 0, Runs.upTo(24)) + """
            open(0, 0) ok
            next(0, true) 0
            erase(0) ok
            room(0) 28
            plant(0, 9) ok
            plant(0, 9) F
            """);
    }

    private static void eraseFromMaps() {
        for (int kind = 2; kind <= 4; kind++) {
            Script.check("promise 24: The latest key goes: the first, then the last, kind " + kind,
                Runs.map(0, kind, 1, 2, 3) + """
                open(0, 0) ok
                next(0, true) 1
                erase(0) ok
                erase(0) ARG
                left(0) 2
                next(0, true) 2
                next(0, true) 3
                erase(0) ok
                left(0) 0
                next(0, true) NONE
                size(0) 1
                value(0, 2) 20
                """);
        }
        Script.check("promise 24: from a RANGE: at both its ends, and nothing beside it", Runs.map(0, 4, 1, 2, 3, 4) + """
            view(0, 2, 3) 1
            open(0, 1) ok
            next(0, true) 2
            erase(0) ok
            next(0, true) 3
            erase(0) ok
            left(0) 0
            next(0, true) NONE
            size(1) 0
            """ + Runs.walks(0, 1, 4));
        Script.check("promise 24: buckets stay as many", Runs.map(0, 2, 1, 2, 3, 4) + """
            open(0, 0) ok
            next(0, true) 1
            erase(0) ok
            room(0) 8
            put(0, 1, 5) true
            """ + Runs.walks(0, 2, 3, 4, 1));
    }

    private static void eraseRefused() {
        Script.check("promise 24: IllegalArgumentException if there is no latest one: at first, of an empty list too", """
            create(0) 0
            open(0, 0) ok
            erase(0) ARG
            next(0, true) NONE
            erase(0) ARG
            """);
        Script.check("promise 24: IllegalArgumentException if there is no latest one: behind erase and behind plant",
            Runs.list(0, 0, 1, 2) + """
            open(0, 0) ok
            next(0, true) 1
            erase(0) ok
            erase(0) ARG
            next(0, true) 2
            plant(0, 3) ok
            erase(0) ARG
            size(0) 2
            """);
        Script.check("promise 24: S: the latest one went by itself", Runs.list(0, 0, 1, 2) + """
            open(0, 0) ok
            next(0, true) 1
            remove(0, 0) 1
            erase(0) S
            size(0) 1
            """);
    }

    private static void assignNumbers() {
        String opened = Runs.list(0, 1, 1, 2, 3) + "open(0, 0) ok\nnext(0, true) 1\n";
        Script.check("promise 25: The latest number of a list is set .. what was there: the first", opened
            + "assign(0, MIN) 1\nassign(0, MAX) MIN\nassign(0, 7) MAX\n" + Runs.holds(0, 7, 2, 3));
        Script.check("promise 25: The latest number of a list is set .. what was there: the last", opened
            + "next(0, true) 2\nnext(0, true) 3\nassign(0, 7) 3\nnext(0, true) NONE\nassign(0, 8) 7\n"
            + Runs.holds(0, 1, 2, 8));
        Script.check("promise 25: The latest number: behind going back", opened
            + "next(0, true) 2\nnext(0, false) 2\nassign(0, 7) 2\nnext(0, true) 7\n" + Runs.holds(0, 1, 7, 3));
        Script.check("promise 25: through a PART of a PART", Runs.list(0, 0, 1, 2, 3) + """
            view(0, 1, 3) 1
            view(1, 1, 2) 2
            open(0, 2) ok
            next(0, true) 3
            assign(0, 7) 3
            left(0) 0
            size(1) 2
            """ + Runs.holds(0, 1, 2, 7));
        Script.check("promise 25: the latest one that was assigned may still be erased", opened
            + "assign(0, 7) 1\nerase(0) ok\n" + Runs.holds(0, 2, 3));
    }

    private static void assignValues() {
        for (int kind = 2; kind <= 4; kind++) {
            Script.check("promise 25: or the value of the latest key: the first and the last, kind " + kind,
                Runs.map(0, kind, 1, 2, 3) + """
                open(0, 0) ok
                next(0, true) 1
                assign(0, MIN) 10
                assign(0, MAX) MIN
                next(0, true) 2
                next(0, true) 3
                assign(0, 7) 30
                next(0, true) NONE
                has(0, 7) false
                value(0, 3) 7
                value(0, 2) 20
                value(0, 1) MAX
                """);
        }
        Script.check("promise 25: (in a RECENT that stays where it is): the first one goes for the seventh",
            Runs.map(0, 3, 1, 2, 3, 4, 5, 6) + """
            open(0, 0) ok
            next(0, true) 1
            assign(0, 7) 10
            left(0) 5
            put(0, 7, 7) true
            has(0, 1) false
            """ + Runs.walks(0, 2, 3, 4, 5, 6, 7));
        Script.check("promise 25: through a RANGE", Runs.map(0, 4, 1, 2, 3) + """
            view(0, 2, 2) 1
            open(0, 1) ok
            next(0, true) 2
            assign(0, 7) 20
            value(0, 2) 7
            value(0, 1) 10
            value(0, 3) 30
            """);
    }

    private static void assignRefused() {
        Script.check("promise 25: IllegalArgumentException if there is no latest one: of an empty map", """
            create(3) 0
            open(0, 0) ok
            assign(0, 5) ARG
            next(0, true) NONE
            assign(0, 5) ARG
            """);
        Script.check("promise 25: IllegalArgumentException if there is no latest one: behind erase and behind plant",
            Runs.list(0, 0, 1, 2) + """
            open(0, 0) ok
            next(0, true) 1
            erase(0) ok
            assign(0, 5) ARG
            plant(0, 3) ok
            assign(0, 5) ARG
            """ + Runs.holds(0, 3, 2));
        Script.check("promise 25: S: the latest key was used elsewhere, in a RECENT", Runs.map(0, 3, 1, 2) + """
            open(0, 0) ok
            next(0, true) 1
            value(0, 1) 10
            assign(0, 5) S
            value(0, 1) 10
            """);
    }

    private static void plantPlaces() {
        String opened = Runs.list(0, 0, 1, 2) + "open(0, 0) ok\n";
        Script.check("promise 26: where it stands; it stands behind it then: before all", opened
            + "plant(0, 7) ok\nleft(0) 2\nnext(0, true) 1\n" + Runs.holds(0, 7, 1, 2));
        Script.check("promise 26: where it stands; it stands behind it then: in between", opened
            + "next(0, true) 1\nplant(0, 7) ok\nleft(0) 1\nnext(0, false) 7\nnext(0, false) 1\n" + Runs.holds(0, 1, 7, 2));
        Script.check("promise 26: where it stands; it stands behind it then: behind all", opened
            + "next(0, true) 1\nnext(0, true) 2\nplant(0, 7) ok\nleft(0) 0\nnext(0, true) NONE\nnext(0, false) 7\n"
            + Runs.holds(0, 1, 2, 7));
        Script.check("promise 26: into an empty list, one behind another", "create(1) 0\nopen(0, 0) ok\n"
            + "plant(0, MIN) ok\nplant(0, 0) ok\nplant(0, MAX) ok\nleft(0) 0\nnext(0, false) MAX\nnext(0, false) 0\n"
            + "next(0, false) MIN\nnext(0, false) NONE\nsize(0) 3\n");
        Script.check("promise 26: behind going back: before the one it came over", opened
            + "next(0, true) 1\nnext(0, true) 2\nnext(0, false) 2\nplant(0, 7) ok\nnext(0, true) 2\n"
            + Runs.holds(0, 1, 7, 2));
    }

    private static void plantThroughParts() {
        Script.check("promise 26: at both ends of a PART of a PART", Runs.list(0, 0, 1, 2, 3) + """
            view(0, 0, 3) 1
            view(1, 1, 2) 2
            open(0, 2) ok
            plant(0, 7) ok
            next(0, true) 2
            plant(0, 8) ok
            next(0, true) NONE
            """ + Runs.holds(2, 7, 2, 8) + Runs.holds(1, 1, 7, 2, 8, 3) + Runs.holds(0, 1, 7, 2, 8, 3));
        Script.check("promise 26: into an empty PART", Runs.list(0, 1, 1, 2) + """
            view(0, 1, 1) 1
            open(0, 1) ok
            plant(0, 7) ok
            left(0) 0
            next(0, false) 7
            next(0, false) NONE
            """ + Runs.holds(1, 7) + Runs.holds(0, 1, 7, 2));
    }

    private static void plantWhenFull() {
        for (int kind = 0; kind <= 1; kind++) {
            Script.check("promise 26: F: the 24th comes in, the 25th not; where it stands stays, kind " + kind,
                Runs.list(0, kind, Runs.upTo(23)) + """
                open(0, 0) ok
                next(0, true) 0
                plant(0, 7) ok
                plant(0, 8) F
                left(0) 22
                next(0, true) 1
                plant(0, 8) F
                assign(0, 9) 1
                left(0) 21
                size(0) 24
                """);
        }
        for (int kind = 2; kind <= 4; kind++) {
            Script.check("promise 26: K: over a map, empty or not, kind " + kind, "create(" + kind + ") 0\nopen(0, 0) ok\n"
                + "plant(0, 7) K\nput(0, 1, 1) true\nopen(0, 0) ok\nnext(0, true) 1\nplant(0, 7) K\nassign(0, 5) 1\n");
        }
        Script.check("promise 26: K: over a RANGE", "create(4) 0\nview(0, 0, 9) 1\nopen(0, 1) ok\nplant(0, 7) K\nsize(0) 0\n");
    }
}
