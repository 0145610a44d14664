import java.util.NoSuchElementException;

/** Lists, maps and a heap of numbers, live views of parts of them, and iterators over them. */
public final class ContainerKit {
    private static final int ROW = 0;
    private static final int CHAIN = 1;
    private static final int TABLE = 2;
    private static final int RECENT = 3;
    private static final int TREE = 4;
    private static final int HEAP = 5;
    private static final int PART = 6;
    private static final int RANGE = 7;

    private static final int MOST_CONTAINERS = 10;
    private static final int MOST_ITERATORS = 4;
    private static final int MOST_NUMBERS = 24;
    private static final int TOO_MANY_RECENT = 7;
    private static final int FIRST_ROOM = 4;
    private static final int NONE = -1;

    private static final int RISING = 0;
    private static final int FALLING = 1;
    private static final int BY_LAST_DIGIT = 2;

    private static final int GREATEST_BELOW = 0;
    private static final int GREATEST_NOT_ABOVE = 1;
    private static final int LEAST_ABOVE = 3;

    private final Container[] containers = new Container[MOST_CONTAINERS];
    private final Walk[] walks = new Walk[MOST_ITERATORS];
    private int made = 0;

    public ContainerKit() {
        for (int i = 0; i < walks.length; i++) {
            walks[i] = new Walk();
        }
    }

    public int create(int kind) throws IllegalArgumentException, IllegalStateException {
        demandArgument(kind >= ROW && kind <= HEAP);
        demandOneMoreContainer();
        return keepContainer(new Whole(kind));
    }

    public int view(int of, int from, int to)
            throws IndexOutOfBoundsException, UnsupportedOperationException, IllegalArgumentException,
            IllegalStateException, RuntimeException {
        Container source = containerAt(of);
        demandKind(source.isList() || source.isSorted());
        demandFresh(source);
        demandArgument(from <= to && (source.isSorted() || from >= 0 && to <= source.count()));
        demandOneMoreContainer();
        return keepContainer(source.isSorted() ? rangeOf(source, from, to) : partOf(source, from, to));
    }

    public int kind(int container) throws IndexOutOfBoundsException {
        return containerAt(container).kind;
    }

    public int size(int container) throws IndexOutOfBoundsException, RuntimeException {
        Container asked = containerAt(container);
        demandFresh(asked);
        return asked.count();
    }

    public int get(int list, int place)
            throws IndexOutOfBoundsException, UnsupportedOperationException, NoSuchElementException,
            RuntimeException {
        Container asked = freshList(list);
        demandThere(asked.isPlace(place));
        return asked.numberAt(place);
    }

    public int set(int list, int place, int number)
            throws IndexOutOfBoundsException, UnsupportedOperationException, NoSuchElementException,
            RuntimeException {
        Container asked = freshList(list);
        demandThere(asked.isPlace(place));
        return asked.changeNumber(place, number);
    }

    public void insert(int container, int place, int number)
            throws IndexOutOfBoundsException, UnsupportedOperationException, NoSuchElementException,
            IllegalStateException, RuntimeException {
        Container asked = freshListOrHeap(container);
        boolean isHeap = asked.kind == HEAP;
        demandThere(isHeap || place >= 0 && place <= asked.count());
        demandSpace(asked.store);
        // A heap is held as a rising row, so that its least number is always the first one.
        asked.bring(isHeap ? asked.store.placesBefore(number, true) : place, number);
    }

    public int remove(int container, int place)
            throws IndexOutOfBoundsException, UnsupportedOperationException, NoSuchElementException,
            RuntimeException {
        Container asked = freshListOrHeap(container);
        int where = asked.kind == HEAP ? 0 : place;
        demandThere(asked.isPlace(where));
        return asked.take(where);
    }

    public void sort(int list, int how)
            throws IndexOutOfBoundsException, UnsupportedOperationException, IllegalArgumentException,
            RuntimeException {
        Container asked = freshList(list);
        demandArgument(how >= RISING && how <= BY_LAST_DIGIT);
        asked.arrange(how);
    }

    public boolean put(int map, int key, int value)
            throws IndexOutOfBoundsException, UnsupportedOperationException, IllegalArgumentException,
            IllegalStateException {
        Container asked = mapAt(map);
        demandKeyFits(asked, key);
        boolean isNew = asked.placeOf(key) == NONE;
        asked.store.putKey(key, value);
        return isNew;
    }

    public int merge(int map, int key, int value)
            throws IndexOutOfBoundsException, UnsupportedOperationException, IllegalArgumentException,
            IllegalStateException {
        Container asked = mapAt(map);
        demandKeyFits(asked, key);
        int place = asked.placeOf(key);
        int merged = place == NONE ? value : asked.valueAt(place) + value;
        asked.store.putKey(key, merged);
        return merged;
    }

    public boolean has(int map, int key) throws IndexOutOfBoundsException, UnsupportedOperationException {
        return mapAt(map).placeOf(key) != NONE;
    }

    public int value(int map, int key)
            throws IndexOutOfBoundsException, UnsupportedOperationException, NoSuchElementException {
        Container asked = mapAt(map);
        int place = asked.placeOf(key);
        demandThere(place != NONE);
        int found = asked.valueAt(place);
        asked.store.noteUse(key);
        return found;
    }

    public int drop(int map, int key)
            throws IndexOutOfBoundsException, UnsupportedOperationException, NoSuchElementException {
        Container asked = mapAt(map);
        int place = asked.placeOf(key);
        demandThere(place != NONE);
        int dropped = asked.valueAt(place);
        asked.take(place);
        return dropped;
    }

    public int near(int map, int key, int how)
            throws IndexOutOfBoundsException, UnsupportedOperationException, IllegalArgumentException,
            NoSuchElementException {
        Container asked = containerAt(map);
        demandKind(asked.isSorted());
        demandArgument(how >= GREATEST_BELOW && how <= LEAST_ABOVE);
        boolean withKey = how == GREATEST_NOT_ABOVE || how == LEAST_ABOVE;
        int before = asked.placesBefore(key, withKey);
        int place = how <= GREATEST_NOT_ABOVE ? before - 1 : before;
        demandThere(asked.isPlace(place));
        return asked.numberAt(place);
    }

    public int room(int container) throws IndexOutOfBoundsException, UnsupportedOperationException {
        Container asked = containerAt(container);
        demandKind(asked.kind == ROW || asked.isHashed());
        return asked.store.room;
    }

    public int bucket(int map, int key) throws IndexOutOfBoundsException, UnsupportedOperationException {
        Container asked = containerAt(map);
        demandKind(asked.isHashed());
        return asked.store.countInBucketOf(key);
    }

    public int sift(int container, int by, int rest)
            throws IndexOutOfBoundsException, UnsupportedOperationException, IllegalArgumentException,
            RuntimeException {
        Container asked = containerAt(container);
        demandKind(asked.kind != HEAP);
        demandFresh(asked);
        demandArgument(by >= 1);
        return asked.takeAll(by, rest);
    }

    public boolean same(int container, int other) throws IndexOutOfBoundsException, RuntimeException {
        Container one = containerAt(container);
        Container two = containerAt(other);
        demandFresh(one);
        demandFresh(two);
        if (one.isList() && two.isList()) {
            return one.hasNumbersOf(two);
        }
        return one.isMap() && two.isMap() && one.hasPairsOf(two);
    }

    public void open(int iterator, int container)
            throws IndexOutOfBoundsException, UnsupportedOperationException, RuntimeException {
        Walk walk = walkAt(iterator);
        Container asked = containerAt(container);
        demandKind(asked.kind != HEAP);
        demandFresh(asked);
        walk.begin(asked);
    }

    public int next(int iterator, boolean forth)
            throws IndexOutOfBoundsException, UnsupportedOperationException, NoSuchElementException,
            RuntimeException {
        Walk walk = openedWalkAt(iterator);
        Container over = walk.over;
        demandKind(forth || over.isList());
        demandFreshWalk(walk);
        int place = forth ? walk.place : walk.place - 1;
        demandThere(over.isPlace(place));
        walk.goOver(place, forth);
        return over.numberAt(place);
    }

    public int left(int iterator) throws IndexOutOfBoundsException, RuntimeException {
        Walk walk = openedWalkAt(iterator);
        demandFreshWalk(walk);
        return walk.over.count() - walk.place;
    }

    public void erase(int iterator)
            throws IndexOutOfBoundsException, IllegalArgumentException, RuntimeException {
        Walk walk = openedWalkAt(iterator);
        demandFreshWalk(walk);
        demandArgument(walk.latest != NONE);
        walk.over.take(walk.latest);
        walk.standAt(walk.latest);
    }

    public int assign(int iterator, int number)
            throws IndexOutOfBoundsException, IllegalArgumentException, RuntimeException {
        Walk walk = openedWalkAt(iterator);
        demandFreshWalk(walk);
        demandArgument(walk.latest != NONE);
        Container over = walk.over;
        return over.isList()
                ? over.changeNumber(walk.latest, number)
                : over.changeValue(walk.latest, number);
    }

    public void plant(int iterator, int number)
            throws IndexOutOfBoundsException, UnsupportedOperationException, IllegalStateException,
            RuntimeException {
        Walk walk = openedWalkAt(iterator);
        Container over = walk.over;
        demandKind(over.isList());
        demandFreshWalk(walk);
        demandSpace(over.store);
        over.bring(walk.place, number);
        walk.standAt(walk.place + 1);
    }

    private Container containerAt(int number) {
        if (number < 0 || number >= containers.length || containers[number] == null) {
            throw new IndexOutOfBoundsException("no such container");
        }
        return containers[number];
    }

    private Container mapAt(int number) {
        Container asked = containerAt(number);
        demandKind(asked.isMap());
        return asked;
    }

    private Container freshList(int number) {
        Container asked = containerAt(number);
        demandKind(asked.isList());
        demandFresh(asked);
        return asked;
    }

    private Container freshListOrHeap(int number) {
        Container asked = containerAt(number);
        demandKind(asked.isList() || asked.kind == HEAP);
        demandFresh(asked);
        return asked;
    }

    private Walk walkAt(int iterator) {
        if (iterator < 0 || iterator >= walks.length || walks[iterator] == null) {
            throw new IndexOutOfBoundsException("no such iterator");
        }
        return walks[iterator];
    }

    private Walk openedWalkAt(int iterator) {
        Walk walk = walkAt(iterator);
        if (walk.over == null) {
            throw new IndexOutOfBoundsException("the iterator was not opened");
        }
        return walk;
    }

    private int keepContainer(Container fresh) {
        int number = made;
        if (number >= 0 && number < containers.length) {
            containers[number] = fresh;
            made = number + 1;
        }
        return number;
    }

    private static Container partOf(Container list, int from, int to) {
        Part above = list instanceof Part ? (Part) list : null;
        return new Part(list.store, above, list.start() + from, to - from);
    }

    private static Container rangeOf(Container sorted, int from, int to) {
        if (sorted instanceof Range) {
            Range above = (Range) sorted;
            return new Range(above.store, Math.max(from, above.low), Math.min(to, above.high));
        }
        return new Range(sorted.store, from, to);
    }

    private void demandOneMoreContainer() {
        if (made >= containers.length) {
            throw new IllegalStateException("there are as many containers as there may be");
        }
    }

    private static void demandKind(boolean fits) {
        if (!fits) {
            throw new UnsupportedOperationException("not for this kind of container");
        }
    }

    private static void demandArgument(boolean good) {
        if (!good) {
            throw new IllegalArgumentException("an argument is not allowed here");
        }
    }

    private static void demandThere(boolean isThere) {
        if (!isThere) {
            throw new NoSuchElementException("there is none such");
        }
    }

    private static void demandFresh(Container asked) {
        if (asked.isStale()) {
            throw new RuntimeException("the list is stale");
        }
    }

    private static void demandFreshWalk(Walk walk) {
        if (walk.isStale()) {
            throw new RuntimeException("the iterator is stale");
        }
    }

    private static void demandSpace(Store store) {
        if (store.isFull()) {
            throw new IllegalStateException("the base is full");
        }
    }

    private static void demandKeyFits(Container map, int key) {
        demandArgument(map.covers(key));
        if (map.placeOf(key) == NONE) {
            demandSpace(map.store);
        }
    }

    /** What a base holds: its numbers, or its keys with their values, in their order without gaps. */
    private static final class Store {
        private final int kind;
        private final int[] numbers = new int[MOST_NUMBERS];
        private final int[] values = new int[MOST_NUMBERS];
        private int count = 0;
        private int room = FIRST_ROOM;
        private int changes = 0;

        Store(int kind) {
            this.kind = kind;
        }

        boolean isFull() {
            return count >= numbers.length;
        }

        boolean isHeld(int place) {
            return place >= 0 && place < count;
        }

        int numberAt(int place) {
            return isHeld(place) ? numbers[place] : 0;
        }

        int valueAt(int place) {
            return isHeld(place) ? values[place] : 0;
        }

        void setNumber(int place, int number) {
            if (isHeld(place)) {
                numbers[place] = number;
            }
        }

        void setValue(int place, int value) {
            if (isHeld(place)) {
                values[place] = value;
            }
        }

        int placeOf(int key) {
            for (int place = 0; place < count; place++) {
                if (numbers[place] == key) {
                    return place;
                }
            }
            return NONE;
        }

        /** How many numbers are below one, or not above it: where it belongs in a rising row. */
        int placesBefore(int number, boolean withEqual) {
            int before = 0;
            for (int place = 0; place < count; place++) {
                if (numbers[place] < number || withEqual && numbers[place] == number) {
                    before++;
                }
            }
            return before;
        }

        void bringIn(int place, int number, int value) {
            if (isFull() || place < 0 || place > count) {
                return;
            }
            if (kind == ROW && count >= room) {
                room += room / 2;
            }
            for (int i = count; i > place; i--) {
                numbers[i] = numbers[i - 1];
                values[i] = values[i - 1];
            }
            numbers[place] = number;
            values[place] = value;
            count++;
            changes++;
        }

        void takeOut(int place) {
            if (isHeld(place)) {
                closeGap(place);
                count--;
                changes++;
            }
        }

        private void closeGap(int place) {
            for (int i = place; i < count - 1; i++) {
                numbers[i] = numbers[i + 1];
                values[i] = values[i + 1];
            }
        }

        void putKey(int key, int value) {
            int place = placeOf(key);
            if (place == NONE) {
                bringKeyIn(key, value);
            } else {
                setValue(place, value);
                noteUse(key);
            }
        }

        private void bringKeyIn(int key, int value) {
            bringIn(kind == TREE ? placesBefore(key, false) : count, key, value);
            if ((kind == TABLE || kind == RECENT) && count * 4 > room * 3) {
                room *= 2;
            }
            if (kind == RECENT && count >= TOO_MANY_RECENT) {
                takeOut(0);
            }
        }

        /** A key of a RECENT that is used becomes the last one; that is a single change. */
        void noteUse(int key) {
            int place = placeOf(key);
            if (kind != RECENT || place == NONE || place == count - 1) {
                return;
            }
            int value = values[place];
            closeGap(place);
            numbers[count - 1] = key;
            values[count - 1] = value;
            changes++;
        }

        int countInBucketOf(int key) {
            int mates = 0;
            for (int place = 0; place < count; place++) {
                if (bucketOf(numbers[place]) == bucketOf(key)) {
                    mates++;
                }
            }
            return mates;
        }

        private int bucketOf(int key) {
            return (key ^ (key >>> 16)) & (room - 1);
        }

        /** Sorts by inserting, which leaves equal ones as they stand. */
        void arrange(int from, int to, int how) {
            for (int i = from + 1; i < to; i++) {
                int moving = numberAt(i);
                int place = i;
                while (place > from && comesBefore(moving, numberAt(place - 1), how)) {
                    setNumber(place, numberAt(place - 1));
                    place--;
                }
                setNumber(place, moving);
            }
            changes++;
        }

        private static boolean comesBefore(int one, int two, int how) {
            if (how == RISING) {
                return one < two;
            }
            if (how == FALLING) {
                return one > two;
            }
            return Math.floorMod(one, 10) < Math.floorMod(two, 10);
        }
    }

    /** A stretch of a store: the whole of it, or what a view shows of it. Places count from its start. */
    private abstract static class Container {
        final int kind;
        final Store store;

        Container(int kind, Store store) {
            this.kind = kind;
            this.store = store;
        }

        abstract int start();

        abstract int count();

        /** Only a PART can be stale: a base and a RANGE are looked up anew in each call. */
        boolean isStale() {
            return false;
        }

        boolean covers(int key) {
            return true;
        }

        /** Told behind each change that was made through this container; only a PART must keep count. */
        void follow(int more) {
        }

        boolean isList() {
            return kind == ROW || kind == CHAIN || kind == PART;
        }

        boolean isMap() {
            return isHashed() || isSorted();
        }

        boolean isHashed() {
            return kind == TABLE || kind == RECENT;
        }

        boolean isSorted() {
            return kind == TREE || kind == RANGE;
        }

        boolean isPlace(int place) {
            return place >= 0 && place < count();
        }

        int numberAt(int place) {
            return store.numberAt(start() + place);
        }

        int valueAt(int place) {
            return store.valueAt(start() + place);
        }

        int placeOf(int key) {
            return covers(key) && store.placeOf(key) != NONE ? store.placeOf(key) - start() : NONE;
        }

        int placesBefore(int key, boolean withKey) {
            int before = store.placesBefore(key, withKey) - start();
            return Math.max(0, Math.min(before, count()));
        }

        int changeNumber(int place, int number) {
            int old = numberAt(place);
            store.setNumber(start() + place, number);
            return old;
        }

        int changeValue(int place, int value) {
            int old = valueAt(place);
            store.setValue(start() + place, value);
            return old;
        }

        void bring(int place, int number) {
            store.bringIn(start() + place, number, 0);
            follow(1);
        }

        int take(int place) {
            int taken = numberAt(place);
            store.takeOut(start() + place);
            follow(-1);
            return taken;
        }

        void arrange(int how) {
            store.arrange(start(), start() + count(), how);
            follow(0);
        }

        int takeAll(int by, int rest) {
            if (by < 1) {
                return 0;
            }
            int taken = 0;
            for (int place = count() - 1; place >= 0; place--) {
                if (Math.floorMod(numberAt(place), by) == rest) {
                    take(place);
                    taken++;
                }
            }
            return taken;
        }

        boolean hasNumbersOf(Container other) {
            int shared = count();
            if (shared != other.count()) {
                return false;
            }
            for (int place = 0; place < shared; place++) {
                if (numberAt(place) != other.numberAt(place)) {
                    return false;
                }
            }
            return true;
        }

        boolean hasPairsOf(Container other) {
            int shared = count();
            if (shared != other.count()) {
                return false;
            }
            for (int place = 0; place < shared; place++) {
                int there = other.placeOf(numberAt(place));
                if (there == NONE || valueAt(place) != other.valueAt(there)) {
                    return false;
                }
            }
            return true;
        }
    }

    /** A base: all that its store holds. */
    private static final class Whole extends Container {
        Whole(int kind) {
            super(kind, new Store(kind));
        }

        int start() {
            return 0;
        }

        int count() {
            return store.count;
        }
    }

    /** A view of some places of a list. */
    private static final class Part extends Container {
        private final Part above;
        private final int start;
        private int count;
        private int seenChanges;

        Part(Store store, Part above, int start, int count) {
            super(PART, store);
            this.above = above;
            this.start = start;
            this.count = count;
            this.seenChanges = store.changes;
        }

        int start() {
            return start;
        }

        int count() {
            return count;
        }

        /** The parts above need no look: each has seen all the changes that this one has seen. */
        boolean isStale() {
            return seenChanges != store.changes;
        }

        void follow(int more) {
            for (Part part = this; part != null; part = part.above) {
                part.count += more;
                part.seenChanges = store.changes;
            }
        }
    }

    /** A view of the keys from low to high; if low is above high, of none. */
    private static final class Range extends Container {
        private final int low;
        private final int high;

        Range(Store store, int low, int high) {
            super(RANGE, store);
            this.low = low;
            this.high = high;
        }

        int start() {
            return store.placesBefore(low, false);
        }

        int count() {
            return Math.max(0, store.placesBefore(high, true) - start());
        }

        boolean covers(int key) {
            return key >= low && key <= high;
        }
    }

    /** An iterator. */
    private static final class Walk {
        private Container over = null;
        private int place = 0;
        private int latest = NONE;
        private int seenChanges = 0;

        void begin(Container container) {
            over = container;
            standAt(0);
        }

        void standAt(int newPlace) {
            if (over != null) {
                place = newPlace;
                latest = NONE;
                seenChanges = over.store.changes;
            }
        }

        void goOver(int passed, boolean forth) {
            place = forth ? passed + 1 : passed;
            latest = passed;
        }

        boolean isStale() {
            return over == null || over.isStale() || seenChanges != over.store.changes;
        }
    }
}
