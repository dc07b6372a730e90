import java.util.NoSuchElementException;

/** Collections whose past can be edited; ../shared/DOC.md holds the promises that are numbered here. */
public final class EditablePast {
    private static final int COLLECTIONS = 4;
    private static final int LAST_MOMENT = 1000000000;
    private static final int MOST_OPERATIONS = 32;
    private static final int LARGEST = 1000000000;
    private static final int ELEMENTS = 16;

    private static final int NOT_OPEN = -1;
    private static final int QUEUE = 0;
    private static final int STACK = 1;
    private static final int TABLE = 2;
    private static final int HEAP = 3;
    private static final int REGISTER = 4;
    private static final int SETS = 5;

    /** The name 1: puts in, gives, adds or joins, by the kind. */
    private static final int GIVE = 1;
    /** The name 2: takes out or away; a REGISTER and SETS have none such. */
    private static final int TAKE = 2;

    private static final int ABSENT = -1;
    /** Stands behind every moment, so that a line that has ended never has the earlier one. */
    private static final int NEVER = LAST_MOMENT + 1;

    private final Collection[] collections;

    // Every run begins with nothing, so all collections of a kind can share one object to do it in.
    private final Queue queue;
    private final Stack stack;
    private final Table table;
    private final Heap heap;
    private final Register register;
    private final Sets sets;

    /** Promise 1. */
    public EditablePast() {
        collections = new Collection[COLLECTIONS];
        for (int id = 0; id < COLLECTIONS; id++) {
            collections[id] = new Collection();
        }
        queue = new Queue();
        stack = new Stack();
        table = new Table();
        heap = new Heap();
        register = new Register();
        sets = new Sets();
    }

    /** Promise 2. */
    public void open(int id, int kind) throws IllegalArgumentException, IllegalStateException {
        if (kind < QUEUE || kind > SETS) {
            throw new IllegalArgumentException("there is no such kind");
        }
        Collection collection = collectionOf(id);
        if (collection.kind != NOT_OPEN) {
            throw new IllegalStateException("the collection is open");
        }
        collection.kind = kind;
        collection.before.count = 0;
        collection.now.count = 0;
    }

    /** Promise 3. */
    public int close(int id) throws IllegalArgumentException, IllegalStateException {
        Collection collection = openCollection(id);
        collection.kind = NOT_OPEN;
        return collection.now.count;
    }

    /** Promise 4. */
    public void put(int id, int time, int name, int a, int b)
            throws IllegalArgumentException, IllegalStateException, UnsupportedOperationException {
        checkMoment(time);
        Collection collection = openCollection(id);
        checkFree(collection.now, time);
        if (collection.now.count >= MOST_OPERATIONS) {
            throw new IllegalStateException("the line is full");
        }
        if (!contentsOf(collection.kind).allows(name, a, b)) {
            throw new UnsupportedOperationException("the kind has no such operation");
        }
        collection.before.copyFrom(collection.now);
        collection.now.insert(time, name, a, b);
        collection.now.redo(contentsOf(collection.kind));
    }

    /** Promise 5. */
    public boolean strike(int id, int time) throws IllegalArgumentException, IllegalStateException {
        checkMoment(time);
        Collection collection = openCollection(id);
        int place = collection.now.placeAt(time);
        if (place == ABSENT) {
            return false;
        }
        collection.before.copyFrom(collection.now);
        collection.now.remove(place);
        collection.now.redo(contentsOf(collection.kind));
        return true;
    }

    /** Promise 6. */
    public void shift(int id, int time, int to)
            throws IllegalArgumentException, IllegalStateException, NoSuchElementException {
        checkMoment(time);
        checkMoment(to);
        Collection collection = openCollection(id);
        checkFree(collection.now, to);
        int place = takenPlace(collection.now, time);
        collection.before.copyFrom(collection.now);
        collection.now.relocate(place, to);
        collection.now.redo(contentsOf(collection.kind));
    }

    /** Promise 7. */
    public int front(int id, int time)
            throws IllegalArgumentException, IllegalStateException, NoSuchElementException {
        checkMoment(time);
        Collection collection = openCollection(id);
        checkKind(collection.kind == QUEUE || collection.kind == STACK);
        Bag bag = collection.kind == QUEUE ? queue : stack;
        collection.now.runUpTo(time, bag);
        if (bag.count == 0) {
            throw new NoSuchElementException("nothing is in");
        }
        return bag.values[0];
    }

    /** Promise 8. */
    public int size(int id, int time) throws IllegalArgumentException, IllegalStateException {
        checkMoment(time);
        Collection collection = openCollection(id);
        checkKind(collection.kind != REGISTER);
        Contents contents = contentsOf(collection.kind);
        collection.now.runUpTo(time, contents);
        return contents.count;
    }

    /** Promise 9. */
    public int at(int id, int time, int key)
            throws IllegalArgumentException, IllegalStateException, NoSuchElementException {
        checkMoment(time);
        Collection collection = openCollection(id);
        checkKind(collection.kind == TABLE);
        collection.now.runUpTo(time, table);
        int place = table.placeOf(key);
        if (place == ABSENT) {
            throw new NoSuchElementException("the key has no value");
        }
        return table.values[place];
    }

    /** Promise 10. */
    public int least(int id, int time, int k)
            throws IllegalArgumentException, IllegalStateException, IndexOutOfBoundsException {
        checkMoment(time);
        Collection collection = openCollection(id);
        checkKind(collection.kind == HEAP);
        collection.now.runUpTo(time, heap);
        if (k < 0 || k >= heap.count) {
            throw new IndexOutOfBoundsException("there are not so many values");
        }
        return heap.values[k];
    }

    /** Promise 11. */
    public long sum(int id, int time) throws IllegalArgumentException, IllegalStateException {
        checkMoment(time);
        Collection collection = openCollection(id);
        checkKind(collection.kind == REGISTER);
        collection.now.runUpTo(time, register);
        return register.total;
    }

    /** Promise 12. */
    public boolean together(int id, int time, int a, int b)
            throws IllegalArgumentException, IllegalStateException {
        checkMoment(time);
        if (!isElement(a) || !isElement(b)) {
            throw new IllegalArgumentException("there is no such element");
        }
        Collection collection = openCollection(id);
        checkKind(collection.kind == SETS);
        collection.now.runUpTo(time, sets);
        return sets.leaders[a] == sets.leaders[b];
    }

    /** Promise 13. */
    public long result(int id, int time)
            throws IllegalArgumentException, IllegalStateException, NoSuchElementException {
        checkMoment(time);
        Line line = openCollection(id).now;
        return line.results[takenPlace(line, time)];
    }

    /** Promise 14. */
    public boolean works(int id, int time)
            throws IllegalArgumentException, IllegalStateException, NoSuchElementException {
        checkMoment(time);
        Line line = openCollection(id).now;
        return line.effects[takenPlace(line, time)];
    }

    /** Promise 15. */
    public int effective(int id, int from, int to) throws IllegalArgumentException, IllegalStateException {
        checkMoment(from);
        checkMoment(to);
        return openCollection(id).now.countEffects(from, to);
    }

    /** Promise 16. */
    public int firstChange(int id, int from, int to) throws IllegalArgumentException, IllegalStateException {
        checkMoment(from);
        checkMoment(to);
        Collection collection = openCollection(id);
        int moment = collection.now.firstDifference(collection.before, from);
        return moment <= to ? moment : 0;
    }

    /** Promise 17. */
    public int operations(int id) throws IllegalArgumentException, IllegalStateException {
        return openCollection(id).now.count;
    }

    /** Promise 18. */
    public int operation(int id, int i, int f)
            throws IllegalArgumentException, IllegalStateException, IndexOutOfBoundsException {
        if (f < 0 || f > 3) {
            throw new IllegalArgumentException("an operation has no such number");
        }
        Line line = openCollection(id).now;
        if (i < 0 || i >= line.count) {
            throw new IndexOutOfBoundsException("the line has not so many operations");
        }
        switch (f) {
            case 0:
                return line.moments[i];
            case 1:
                return line.names[i];
            case 2:
                return line.as[i];
            default:
                return line.bs[i];
        }
    }

    private Collection collectionOf(int id) {
        if (id < 0 || id >= COLLECTIONS) {
            throw new IllegalArgumentException("there is no such collection");
        }
        return collections[id];
    }

    /** Every other illegal argument must have been looked for before: this one may find an illegal state. */
    private Collection openCollection(int id) {
        Collection collection = collectionOf(id);
        if (collection.kind == NOT_OPEN) {
            throw new IllegalStateException("the collection is not open");
        }
        return collection;
    }

    private Contents contentsOf(int kind) {
        switch (kind) {
            case QUEUE:
                return queue;
            case STACK:
                return stack;
            case TABLE:
                return table;
            case HEAP:
                return heap;
            case REGISTER:
                return register;
            default:
                return sets;
        }
    }

    private static void checkMoment(int time) {
        if (time < 1 || time > LAST_MOMENT) {
            throw new IllegalArgumentException("there is no such moment");
        }
    }

    private static void checkKind(boolean fits) {
        if (!fits) {
            throw new IllegalStateException("the call is not for collections of this kind");
        }
    }

    private static void checkFree(Line line, int time) {
        if (line.placeAt(time) != ABSENT) {
            throw new IllegalStateException("the moment is taken");
        }
    }

    private static int takenPlace(Line line, int time) {
        int place = line.placeAt(time);
        if (place == ABSENT) {
            throw new NoSuchElementException("there is no operation at the moment");
        }
        return place;
    }

    private static boolean isValue(int number) {
        return number >= 0 && number <= LARGEST;
    }

    private static boolean isElement(int number) {
        return number >= 0 && number < ELEMENTS;
    }

    /** One of the four: its line now, and its line as it was before the latest edit. */
    private static final class Collection {
        int kind = NOT_OPEN;
        final Line now = new Line();
        final Line before = new Line();
    }

    /** Operations in rising order of moments, each with what came of it in the run of them all. */
    private static final class Line {
        int count;
        final int[] moments = new int[MOST_OPERATIONS];
        final int[] names = new int[MOST_OPERATIONS];
        final int[] as = new int[MOST_OPERATIONS];
        final int[] bs = new int[MOST_OPERATIONS];
        final long[] results = new long[MOST_OPERATIONS];
        final boolean[] effects = new boolean[MOST_OPERATIONS];

        /** The place of the first operation that is not before a moment, or the count. */
        int placeFrom(int moment) {
            int place = 0;
            while (place < count && moments[place] < moment) {
                place++;
            }
            return place;
        }

        int placeAt(int moment) {
            int place = placeFrom(moment);
            return place < count && moments[place] == moment ? place : ABSENT;
        }

        /** The caller has seen that the moment is free and the line is not full. */
        void insert(int moment, int name, int a, int b) {
            int place = placeFrom(moment);
            for (int i = count; i > place; i--) {
                copyOperation(this, i - 1, i);
            }
            moments[place] = moment;
            names[place] = name;
            as[place] = a;
            bs[place] = b;
            count++;
        }

        void remove(int place) {
            count--;
            for (int i = place; i < count; i++) {
                copyOperation(this, i + 1, i);
            }
        }

        void relocate(int place, int moment) {
            int name = names[place];
            int a = as[place];
            int b = bs[place];
            remove(place);
            insert(moment, name, a, b);
        }

        void copyFrom(Line other) {
            count = other.count;
            for (int i = 0; i < count; i++) {
                copyOperation(other, i, i);
            }
        }

        private void copyOperation(Line source, int from, int to) {
            moments[to] = source.moments[from];
            names[to] = source.names[from];
            as[to] = source.as[from];
            bs[to] = source.bs[from];
            results[to] = source.results[from];
            effects[to] = source.effects[from];
        }

        /** After an edit any later operation may come out otherwise, so all are done again. */
        void redo(Contents contents) {
            contents.clear();
            for (int i = 0; i < count; i++) {
                contents.perform(names[i], as[i], bs[i]);
                results[i] = contents.lastResult;
                effects[i] = contents.lastEffect;
            }
        }

        void runUpTo(int moment, Contents contents) {
            contents.clear();
            for (int i = 0; i < count && moments[i] <= moment; i++) {
                contents.perform(names[i], as[i], bs[i]);
            }
        }

        int countEffects(int from, int to) {
            int found = 0;
            for (int i = placeFrom(from); i < count && moments[i] <= to; i++) {
                if (effects[i]) {
                    found++;
                }
            }
            return found;
        }

        /** The least moment, not before the given one, at which the lines differ, or NEVER. */
        int firstDifference(Line other, int from) {
            int mine = placeFrom(from);
            int others = other.placeFrom(from);
            while (mine < count && others < other.count && isSame(mine, other, others)) {
                mine++;
                others++;
            }
            // Where only one line has an operation, it is the one with the earlier moment.
            return Math.min(momentOrNever(mine), other.momentOrNever(others));
        }

        private boolean isSame(int mine, Line other, int others) {
            return moments[mine] == other.moments[others]
                    && results[mine] == other.results[others]
                    && effects[mine] == other.effects[others];
        }

        private int momentOrNever(int place) {
            return place < count ? moments[place] : NEVER;
        }
    }

    /** What is in a collection in the course of a run, and what came of the latest operation. */
    private abstract static class Contents {
        /** How many values, keys or sets there are; a REGISTER leaves it alone. */
        int count;
        long lastResult;
        boolean lastEffect;

        abstract boolean allows(int name, int a, int b);

        abstract void clear();

        abstract void perform(int name, int a, int b);

        void noteEffect(long result) {
            lastResult = result;
            lastEffect = true;
        }

        void noteNoEffect() {
            lastResult = 0;
            lastEffect = false;
        }
    }

    /** Values in the order in which they would be taken out: the kinds differ only in where one goes in. */
    private abstract static class Bag extends Contents {
        final int[] values = new int[MOST_OPERATIONS];

        abstract int placeFor(int value);

        boolean allows(int name, int a, int b) {
            return b == 0 && (name == GIVE && isValue(a) || name == TAKE && a == 0);
        }

        void clear() {
            count = 0;
        }

        void perform(int name, int a, int b) {
            if (name == GIVE) {
                insert(placeFor(a), a);
                noteEffect(0);
            } else if (count > 0) {
                noteEffect(removeFirst());
            } else {
                noteNoEffect();
            }
        }

        private void insert(int place, int value) {
            for (int i = count; i > place; i--) {
                values[i] = values[i - 1];
            }
            values[place] = value;
            count++;
        }

        private int removeFirst() {
            int first = values[0];
            count--;
            for (int i = 0; i < count; i++) {
                values[i] = values[i + 1];
            }
            return first;
        }
    }

    private static final class Queue extends Bag {
        int placeFor(int value) {
            return count;
        }
    }

    private static final class Stack extends Bag {
        int placeFor(int value) {
            return 0;
        }
    }

    private static final class Heap extends Bag {
        int placeFor(int value) {
            int place = 0;
            while (place < count && values[place] < value) {
                place++;
            }
            return place;
        }
    }

    private static final class Table extends Contents {
        final int[] keys = new int[MOST_OPERATIONS];
        final int[] values = new int[MOST_OPERATIONS];

        int placeOf(int key) {
            for (int i = 0; i < count; i++) {
                if (keys[i] == key) {
                    return i;
                }
            }
            return ABSENT;
        }

        boolean allows(int name, int a, int b) {
            return isValue(a) && (name == GIVE && isValue(b) || name == TAKE && b == 0);
        }

        void clear() {
            count = 0;
        }

        void perform(int name, int a, int b) {
            int place = placeOf(a);
            if (name == GIVE && place == ABSENT) {
                add(a, b);
                noteEffect(0);
            } else if (name == TAKE && place != ABSENT) {
                noteEffect(values[place]);
                remove(place);
            } else {
                noteNoEffect();
            }
        }

        private void add(int key, int value) {
            keys[count] = key;
            values[count] = value;
            count++;
        }

        /** The keys have no order, so the last one may fill the gap. */
        private void remove(int place) {
            count--;
            keys[place] = keys[count];
            values[place] = values[count];
        }
    }

    private static final class Register extends Contents {
        long total;

        boolean allows(int name, int a, int b) {
            return name == GIVE && a >= -LARGEST && a <= LARGEST && b == 0;
        }

        void clear() {
            total = 0;
        }

        void perform(int name, int a, int b) {
            total = Math.max(0L, total + a);
            noteEffect(total);
        }
    }

    private static final class Sets extends Contents {
        /** The elements of one set have the same leader, one of them. */
        final int[] leaders = new int[ELEMENTS];

        boolean allows(int name, int a, int b) {
            return name == GIVE && isElement(a) && isElement(b);
        }

        void clear() {
            count = ELEMENTS;
            for (int i = 0; i < ELEMENTS; i++) {
                leaders[i] = i;
            }
        }

        void perform(int name, int a, int b) {
            int leader = leaders[a];
            int replaced = leaders[b];
            if (leader == replaced) {
                noteNoEffect();
                return;
            }
            for (int i = 0; i < ELEMENTS; i++) {
                if (leaders[i] == replaced) {
                    leaders[i] = leader;
                }
            }
            count--;
            noteEffect(0);
        }
    }
}
