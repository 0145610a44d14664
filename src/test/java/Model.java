import java.util.ArrayList;
import java.util.Comparator;
import java.util.LinkedHashMap;
import java.util.List;
import java.util.Map;
import java.util.NoSuchElementException;
import java.util.Objects;
import java.util.PriorityQueue;
import java.util.TreeMap;

/**
 * The document once more, slow and word by word, on the Java library's own containers: a base logs
 * through which container each change came, and what is stale is read from that log.
 */
final class Model {
    private final List<Box> boxes = new ArrayList<>();
    private final Cursor[] cursors = new Cursor[4];

    /** A container, of any kind. */
    private static final class Box {
        int kind;
        Box of;
        int from;
        int length;
        int madeAt;
        int low = Integer.MIN_VALUE;
        int high = Integer.MAX_VALUE;
        int room = 4;
        final List<Integer> list = new ArrayList<>();
        Map<Integer, Integer> map;
        final PriorityQueue<Integer> heap = new PriorityQueue<>();
        final List<Box> log = new ArrayList<>();

        Box base() {
            return of == null ? this : of.base();
        }

        boolean isList() {
            return kind == 0 || kind == 1 || kind == 6;
        }

        boolean isMap() {
            return kind == 2 || kind == 3 || kind == 4 || kind == 7;
        }

        boolean isWithin(Box other) {
            return this == other || of != null && of.isWithin(other);
        }

        boolean isStale() {
            if (kind != 6) {
                return false;
            }
            List<Box> all = base().log;
            for (Box through : all.subList(madeAt, all.size())) {
                if (!through.isWithin(this)) {
                    return true;
                }
            }
            return of.isStale();
        }

        List<Integer> numbers() {
            if (kind == 6) {
                return of.numbers().subList(from, from + length);
            }
            if (isList()) {
                return list;
            }
            List<Integer> keys = new ArrayList<>();
            for (int key : base().map.keySet()) {
                if (shows(key)) {
                    keys.add(key);
                }
            }
            return keys;
        }

        boolean shows(int key) {
            return kind != 7 || key >= low && key <= high && of.shows(key);
        }

        boolean holds(int key) {
            return shows(key) && base().map.containsKey(key);
        }

        int count() {
            return kind == 5 ? heap.size() : numbers().size();
        }

        boolean isFull() {
            Box base = base();
            return (base.kind == 5 ? base.heap.size() : base.map != null ? base.map.size() : base.list.size()) == 24;
        }

        void putIn(int place, int number) {
            if (kind == 6) {
                of.putIn(from + place, number);
                length++;
                return;
            }
            if (kind == 0 && list.size() == room) {
                room += room / 2;
            }
            list.add(place, number);
        }

        int takeOut(int place) {
            if (kind == 6) {
                length--;
                return of.takeOut(from + place);
            }
            return list.remove(place);
        }

        void changed() {
            base().log.add(this);
        }

        void goes(int place) {
            if (isList()) {
                takeOut(place);
            } else {
                base().map.remove(numbers().get(place));
            }
            changed();
        }
    }

    /** An iterator. */
    private static final class Cursor {
        Box over;
        int place = 0;
        Integer latest = null;
        int changes;

        Cursor(Box over) {
            this.over = over;
            changes = over.base().log.size();
        }

        boolean isStale() {
            return over.isStale() || changes != over.base().log.size();
        }

        void moved(int to) {
            place = to;
            latest = null;
            changes = over.base().log.size();
        }
    }

    private static void n(boolean bad) {
        if (bad) {
            throw new IndexOutOfBoundsException();
        }
    }

    private static void k(boolean bad) {
        if (bad) {
            throw new UnsupportedOperationException();
        }
    }

    private static void s(boolean bad) {
        if (bad) {
            throw new RuntimeException();
        }
    }

    private static void f(boolean bad) {
        if (bad) {
            throw new IllegalStateException();
        }
    }

    private static void argument(boolean bad) {
        if (bad) {
            throw new IllegalArgumentException();
        }
    }

    private static void none(boolean bad) {
        if (bad) {
            throw new NoSuchElementException();
        }
    }

    private Box box(int number) {
        n(number < 0 || number >= boxes.size());
        return boxes.get(number);
    }

    private Cursor cursor(int number) {
        n(number < 0 || number > 3 || cursors[number] == null);
        return cursors[number];
    }

    /** The numbers of the containers that are of one of some kinds, written as digits. */
    List<Integer> ofKinds(String digits) {
        List<Integer> found = new ArrayList<>();
        for (int number = 0; number < boxes.size(); number++) {
            if (digits.indexOf('0' + boxes.get(number).kind) >= 0) {
                found.add(number);
            }
        }
        return found;
    }

    /** What the call answers: as Calls.answer tells it. */
    String answer(String name, int[] a) {
        try {
            return String.valueOf(call(name, a));
        } catch (RuntimeException e) {
            return "throws." + e.getClass().getSimpleName();
        }
    }

    private Object call(String name, int[] a) {
        return switch (name) {
            case "create" -> create(a[0]);
            case "view" -> view(a[0], a[1], a[2]);
            case "kind" -> box(a[0]).kind;
            case "size" -> size(a[0]);
            case "get" -> get(a[0], a[1]);
            case "set" -> set(a[0], a[1], a[2]);
            case "insert" -> insert(a[0], a[1], a[2]);
            case "remove" -> remove(a[0], a[1]);
            case "sort" -> sort(a[0], a[1]);
            case "put" -> put(a[0], a[1], a[2]);
            case "merge" -> merge(a[0], a[1], a[2]);
            case "has" -> has(a[0], a[1]);
            case "value" -> value(a[0], a[1]);
            case "drop" -> drop(a[0], a[1]);
            case "near" -> near(a[0], a[1], a[2]);
            case "room" -> room(a[0]);
            case "bucket" -> bucket(a[0], a[1]);
            case "sift" -> sift(a[0], a[1], a[2]);
            case "same" -> same(a[0], a[1]);
            case "open" -> open(a[0], a[1]);
            case "next" -> next(a[0], a[1] != 0);
            case "left" -> left(a[0]);
            case "erase" -> erase(a[0]);
            case "assign" -> assign(a[0], a[1]);
            case "plant" -> plant(a[0], a[1]);
            default -> throw new AssertionError(name);
        };
    }

    private Object create(int kind) {
        argument(kind < 0 || kind > 5);
        f(boxes.size() == 10);
        Box box = new Box();
        box.kind = kind;
        if (kind == 2 || kind == 3) {
            box.map = new LinkedHashMap<>();
        }
        if (kind == 4) {
            box.map = new TreeMap<>();
        }
        boxes.add(box);
        return boxes.size() - 1;
    }

    private Object view(int number, int from, int to) {
        Box of = box(number);
        k(!of.isList() && of.kind != 4 && of.kind != 7);
        s(of.isStale());
        argument(of.isList() ? !(0 <= from && from <= to && to <= of.count()) : from > to);
        f(boxes.size() == 10);
        Box box = new Box();
        box.of = of;
        box.kind = of.isList() ? 6 : 7;
        box.from = box.low = from;
        box.high = to;
        box.length = to - from;
        box.madeAt = of.base().log.size();
        boxes.add(box);
        return boxes.size() - 1;
    }

    private Object size(int number) {
        Box box = box(number);
        s(box.isStale());
        return box.count();
    }

    private Object get(int number, int place) {
        Box box = box(number);
        k(!box.isList());
        s(box.isStale());
        none(place < 0 || place >= box.count());
        return box.numbers().get(place);
    }

    private Object set(int number, int place, int to) {
        Box box = box(number);
        k(!box.isList());
        s(box.isStale());
        none(place < 0 || place >= box.count());
        return box.numbers().set(place, to);
    }

    private Object insert(int number, int place, int comes) {
        Box box = box(number);
        k(!box.isList() && box.kind != 5);
        s(box.isStale());
        none(box.kind != 5 && (place < 0 || place > box.count()));
        f(box.isFull());
        if (box.kind == 5) {
            box.heap.add(comes);
        } else {
            box.putIn(place, comes);
        }
        box.changed();
        return "ok";
    }

    private Object remove(int number, int place) {
        Box box = box(number);
        k(!box.isList() && box.kind != 5);
        s(box.isStale());
        none(box.kind == 5 ? box.heap.isEmpty() : place < 0 || place >= box.count());
        int gone = box.kind == 5 ? box.heap.remove() : box.takeOut(place);
        box.changed();
        return gone;
    }

    private Object sort(int number, int how) {
        Box box = box(number);
        k(!box.isList());
        s(box.isStale());
        argument(how < 0 || how > 2);
        Comparator<Integer> rising = Comparator.naturalOrder();
        List<Integer> sorted = new ArrayList<>(box.numbers());
        sorted.sort(how == 0 ? rising : how == 1 ? rising.reversed() : Comparator.comparing(x -> (x % 10 + 10) % 10));
        for (int i = 0; i < sorted.size(); i++) {
            box.numbers().set(i, sorted.get(i));
        }
        box.changed();
        return "ok";
    }

    private Box mapFor(int number, int key) {
        Box box = box(number);
        k(!box.isMap());
        argument(!box.shows(key));
        f(!box.holds(key) && box.isFull());
        return box;
    }

    private static void use(Box box, int key) {
        Box base = box.base();
        List<Integer> keys = new ArrayList<>(base.map.keySet());
        if (base.kind == 3 && keys.get(keys.size() - 1) != key) {
            base.map.put(key, base.map.remove(key));
            box.changed();
        }
    }

    private static void putKey(Box box, int key, int value) {
        Box base = box.base();
        if (box.holds(key)) {
            base.map.replace(key, value);
            use(box, key);
            return;
        }
        base.map.put(key, value);
        box.changed();
        if (base.kind != 4 && base.map.size() > 0.75 * base.room) {
            base.room *= 2;
        }
        if (base.kind == 3 && base.map.size() == 7) {
            base.map.remove(base.map.keySet().iterator().next());
            box.changed();
        }
    }

    private Object put(int number, int key, int value) {
        Box box = mapFor(number, key);
        boolean isNew = !box.holds(key);
        putKey(box, key, value);
        return isNew;
    }

    private Object merge(int number, int key, int value) {
        Box box = mapFor(number, key);
        int sum = box.base().map.getOrDefault(key, 0) + value;
        putKey(box, key, sum);
        return sum;
    }

    private Object has(int number, int key) {
        Box box = box(number);
        k(!box.isMap());
        return box.holds(key);
    }

    private Object value(int number, int key) {
        Box box = box(number);
        k(!box.isMap());
        none(!box.holds(key));
        use(box, key);
        return box.base().map.get(key);
    }

    private Object drop(int number, int key) {
        Box box = box(number);
        k(!box.isMap());
        none(!box.holds(key));
        box.changed();
        return box.base().map.remove(key);
    }

    private Object near(int number, int key, int how) {
        Box box = box(number);
        k(box.kind != 4 && box.kind != 7);
        argument(how < 0 || how > 3);
        TreeMap<Integer, Integer> shown = new TreeMap<>();
        for (int each : box.numbers()) {
            shown.put(each, 0);
        }
        Integer found = switch (how) {
            case 0 -> shown.lowerKey(key);
            case 1 -> shown.floorKey(key);
            case 2 -> shown.ceilingKey(key);
            default -> shown.higherKey(key);
        };
        none(found == null);
        return found;
    }

    private Object room(int number) {
        Box box = box(number);
        k(box.kind != 0 && box.kind != 2 && box.kind != 3);
        return box.room;
    }

    private Object bucket(int number, int key) {
        Box box = box(number);
        k(box.kind != 2 && box.kind != 3);
        int mates = 0;
        for (int each : box.map.keySet()) {
            if (Math.floorMod(each ^ each >>> 16, box.room) == Math.floorMod(key ^ key >>> 16, box.room)) {
                mates++;
            }
        }
        return mates;
    }

    private Object sift(int number, int by, int rest) {
        Box box = box(number);
        k(box.kind == 5);
        s(box.isStale());
        argument(by < 1);
        int gone = 0;
        int place = 0;
        while (place < box.count()) {
            long modulo = ((long) box.numbers().get(place) % by + by) % by;
            if (modulo == rest) {
                box.goes(place);
                gone++;
            } else {
                place++;
            }
        }
        return gone;
    }

    private Object same(int number, int other) {
        Box one = box(number);
        Box two = box(other);
        s(one.isStale() || two.isStale());
        if (one.isList() && two.isList()) {
            return new ArrayList<>(one.numbers()).equals(new ArrayList<>(two.numbers()));
        }
        return one.isMap() && two.isMap() && shown(one).equals(shown(two));
    }

    private static Map<Integer, Integer> shown(Box box) {
        Map<Integer, Integer> pairs = new TreeMap<>();
        for (int key : box.numbers()) {
            pairs.put(key, box.base().map.get(key));
        }
        return pairs;
    }

    private Object open(int iterator, int number) {
        n(iterator < 0 || iterator > 3);
        Box box = box(number);
        k(box.kind == 5);
        s(box.isStale());
        cursors[iterator] = new Cursor(box);
        return "ok";
    }

    private Object next(int iterator, boolean forth) {
        Cursor cursor = cursor(iterator);
        k(!forth && cursor.over.isMap());
        s(cursor.isStale());
        int over = forth ? cursor.place : cursor.place - 1;
        none(over < 0 || over >= cursor.over.count());
        cursor.latest = over;
        cursor.place = forth ? over + 1 : over;
        return cursor.over.numbers().get(over);
    }

    private Object left(int iterator) {
        Cursor cursor = cursor(iterator);
        s(cursor.isStale());
        return cursor.over.count() - cursor.place;
    }

    private Object erase(int iterator) {
        Cursor cursor = cursor(iterator);
        s(cursor.isStale());
        argument(cursor.latest == null);
        cursor.over.goes(cursor.latest);
        cursor.moved(cursor.latest);
        return "ok";
    }

    private Object assign(int iterator, int number) {
        Cursor cursor = cursor(iterator);
        s(cursor.isStale());
        argument(cursor.latest == null);
        List<Integer> numbers = cursor.over.numbers();
        if (cursor.over.isList()) {
            return numbers.set(cursor.latest, number);
        }
        return Objects.requireNonNull(cursor.over.base().map.replace(numbers.get(cursor.latest), number));
    }

    private Object plant(int iterator, int number) {
        Cursor cursor = cursor(iterator);
        k(!cursor.over.isList());
        s(cursor.isStale());
        f(cursor.over.isFull());
        cursor.over.putIn(cursor.place, number);
        cursor.over.changed();
        cursor.moved(cursor.place + 1);
        return "ok";
    }
}
