import java.util.NoSuchElementException;

/** Promises 7 to 12: front, size, at, least, sum, together. */
public final class StatesTest {
    private static final int MAX = 1000000000;
    private static final Class<IllegalArgumentException> ARGUMENT = IllegalArgumentException.class;
    private static final Class<IllegalStateException> STATE = IllegalStateException.class;
    private static final Class<NoSuchElementException> NONE = NoSuchElementException.class;
    private static final Class<IndexOutOfBoundsException> INDEX = IndexOutOfBoundsException.class;

    private static final Check check = new Check();

    public static void main(String[] args) {
        frontOfAQueue();
        frontOfAStack();
        sizeOfEachKind();
        atOfATable();
        leastOfAHeap();
        sumOfARegister();
        togetherInSets();
        everyCallRefusesWhatIsNone();
        everyCallRefusesTheOtherKinds();
        askingChangesNothing();
        check.end();
    }

    private static EditablePast opened(int kind) {
        EditablePast x = new EditablePast();
        x.open(0, kind);
        return x;
    }

    private static EditablePast threePutsAndTwoTakes(int kind) {
        EditablePast x = opened(kind);
        x.put(0, 50, 2, 0, 0);
        x.put(0, 10, 1, 7, 0);
        x.put(0, 30, 1, 8, 0);
        x.put(0, 40, 2, 0, 0);
        x.put(0, 20, 1, 3, 0);
        return x;
    }

    private static void frontOfAQueue() {
        EditablePast x = threePutsAndTwoTakes(0);
        check.refuses("before the first", NONE, () -> x.front(0, 9));
        check.due("at the first", 7, x.front(0, 10));
        check.due("with two", 7, x.front(0, 29));
        check.due("with three", 7, x.front(0, 39));
        check.due("one taken", 3, x.front(0, 40));
        check.due("two taken", 8, x.front(0, MAX));
        x.put(0, 60, 2, 0, 0);
        check.refuses("all taken", NONE, () -> x.front(0, 60));
        x.put(0, 61, 2, 0, 0);
        x.put(0, 62, 1, 0, 0);
        check.due("a take without effect takes nothing later", 0, x.front(0, 62));
    }

    private static void frontOfAStack() {
        EditablePast x = threePutsAndTwoTakes(1);
        check.refuses("before the first", NONE, () -> x.front(0, 1));
        check.due("at the first", 7, x.front(0, 10));
        check.due("with two", 3, x.front(0, 29));
        check.due("with three", 8, x.front(0, 30));
        check.due("one taken", 3, x.front(0, 40));
        check.due("two taken", 7, x.front(0, MAX));
        x.put(0, 60, 2, 0, 0);
        check.refuses("all taken", NONE, () -> x.front(0, 60));
    }

    private static void sizeOfEachKind() {
        for (int kind : new int[] {0, 1, 3}) {
            EditablePast x = threePutsAndTwoTakes(kind);
            check.due("kind " + kind + " before all", 0, x.size(0, 9));
            check.due("kind " + kind + " with three", 3, x.size(0, 39));
            check.due("kind " + kind + " at the end", 1, x.size(0, MAX));
        }
        EditablePast table = opened(2);
        table.put(0, 10, 1, 4, 9);
        table.put(0, 20, 1, 4, 8);
        table.put(0, 30, 1, 5, 9);
        table.put(0, 40, 2, 6, 0);
        table.put(0, 50, 2, 4, 0);
        check.due("a table at first", 0, table.size(0, 1));
        check.due("a key twice is one", 1, table.size(0, 20));
        check.due("two keys", 2, table.size(0, 49));
        check.due("one taken away", 1, table.size(0, MAX));
        EditablePast sets = opened(5);
        check.due("all alone", 16, sets.size(0, MAX));
        sets.put(0, 10, 1, 0, 15);
        sets.put(0, 20, 1, 15, 0);
        sets.put(0, 30, 1, 7, 7);
        sets.put(0, 40, 1, 7, 15);
        check.due("before the first", 16, sets.size(0, 9));
        check.due("those without effect", 15, sets.size(0, 39));
        check.due("three in one", 14, sets.size(0, 40));
        for (int i = 0; i < 15; i++) {
            sets.put(0, 100 + i, 1, i, i + 1);
        }
        check.due("all in one", 1, sets.size(0, MAX));
    }

    private static void atOfATable() {
        EditablePast x = opened(2);
        x.put(0, 10, 1, 4, 40);
        x.put(0, 20, 1, 4, 41);
        x.put(0, 30, 1, MAX, MAX);
        x.put(0, 40, 2, 4, 0);
        x.put(0, 50, 1, 4, 42);
        x.put(0, 60, 1, 0, 0);
        check.refuses("before", NONE, () -> x.at(0, 9, 4));
        check.due("given", 40, x.at(0, 10, 4));
        check.due("a second value is without effect", 40, x.at(0, 39, 4));
        check.refuses("taken away", NONE, () -> x.at(0, 40, 4));
        check.due("the other key stays", MAX, x.at(0, 40, MAX));
        check.due("given again", 42, x.at(0, MAX, 4));
        check.due("key 0 with value 0", 0, x.at(0, 60, 0));
        check.refuses("a key that never had one", NONE, () -> x.at(0, MAX, 5));
        check.refuses("a number that is no key", NONE, () -> x.at(0, MAX, -1));
        check.refuses("a number that is no key", NONE, () -> x.at(0, MAX, MAX + 1));
    }

    private static void leastOfAHeap() {
        EditablePast x = opened(3);
        check.refuses("nothing in", INDEX, () -> x.least(0, 1, 0));
        x.put(0, 10, 1, 7, 0);
        x.put(0, 20, 1, 3, 0);
        x.put(0, 30, 1, 7, 0);
        x.put(0, 40, 1, MAX, 0);
        x.put(0, 50, 2, 0, 0);
        x.put(0, 60, 1, 0, 0);
        check.due("one", 7, x.least(0, 19, 0));
        check.due("least of four", 3, x.least(0, 49, 0));
        check.due("equal values count each", 7, x.least(0, 49, 1));
        check.due("equal values count each", 7, x.least(0, 49, 2));
        check.due("the largest", MAX, x.least(0, 49, 3));
        check.refuses("k = 4 of four", INDEX, () -> x.least(0, 49, 4));
        check.due("the least was taken", 7, x.least(0, 50, 0));
        check.refuses("k = 3 of three", INDEX, () -> x.least(0, 50, 3));
        check.due("a new least", 0, x.least(0, MAX, 0));
        check.refuses("k = -1", INDEX, () -> x.least(0, MAX, -1));
        check.refuses("k = MIN", INDEX, () -> x.least(0, MAX, Integer.MIN_VALUE));
        check.refuses("k = MAX", INDEX, () -> x.least(0, MAX, Integer.MAX_VALUE));
    }

    private static void sumOfARegister() {
        EditablePast x = opened(4);
        check.due("at first", 0, x.sum(0, MAX));
        x.put(0, 30, 1, 4, 0);
        x.put(0, 20, 1, -7, 0);
        x.put(0, 10, 1, 5, 0);
        check.due("before", 0, x.sum(0, 9));
        check.due("after 5", 5, x.sum(0, 10));
        check.due("never below 0", 0, x.sum(0, 20));
        check.due("goes on from 0", 4, x.sum(0, 30));
        x.put(0, 15, 1, 2, 0);
        check.due("just 0", 0, x.sum(0, 20));
        x.put(0, 16, 1, 1, 0);
        check.due("above 0", 1, x.sum(0, 20));
        EditablePast y = opened(4);
        for (int i = 1; i <= 32; i++) {
            y.put(0, i, 1, MAX, 0);
        }
        check.due("more than an int holds", 32000000000L, y.sum(0, MAX));
    }

    private static void togetherInSets() {
        EditablePast x = opened(5);
        check.due("one with itself", true, x.together(0, 1, 15, 15));
        check.due("two at first", false, x.together(0, MAX, 0, 15));
        x.put(0, 30, 1, 2, 14);
        x.put(0, 10, 1, 1, 2);
        x.put(0, 20, 1, 15, 14);
        check.due("before", false, x.together(0, 9, 1, 2));
        check.due("at the moment", true, x.together(0, 10, 1, 2));
        check.due("the other way round", true, x.together(0, 10, 2, 1));
        check.due("two pairs", false, x.together(0, 29, 1, 15));
        check.due("pairs made one", true, x.together(0, 30, 1, 15));
        check.due("and another", true, x.together(0, MAX, 14, 1));
        check.due("not all", false, x.together(0, MAX, 0, 1));
        check.refuses("a = 16", ARGUMENT, () -> x.together(0, 1, 16, 0));
        check.refuses("b = 16", ARGUMENT, () -> x.together(0, 1, 0, 16));
        check.refuses("a = -1", ARGUMENT, () -> x.together(0, 1, -1, 0));
        check.refuses("b = -1", ARGUMENT, () -> x.together(0, 1, 0, -1));
        check.refuses("no element, not open", ARGUMENT, () -> x.together(1, 1, 0, 16));
        x.open(2, 0);
        check.refuses("no element, another kind", ARGUMENT, () -> x.together(2, 1, 16, 0));
    }

    private static void everyCallRefusesWhatIsNone() {
        EditablePast x = new EditablePast();
        for (int wrong : new int[] {-1, 4, Integer.MIN_VALUE, Integer.MAX_VALUE}) {
            refusesAll(x, wrong, 5);
        }
        // The collection is not open, yet the illegal argument is named first.
        for (int wrong : new int[] {0, -1, MAX + 1, Integer.MIN_VALUE, Integer.MAX_VALUE}) {
            refusesAll(x, 0, wrong);
        }
    }

    private static void refusesAll(EditablePast x, int id, int time) {
        check.refuses("front", ARGUMENT, () -> x.front(id, time));
        check.refuses("size", ARGUMENT, () -> x.size(id, time));
        check.refuses("at", ARGUMENT, () -> x.at(id, time, 1));
        check.refuses("least", ARGUMENT, () -> x.least(id, time, 0));
        check.refuses("sum", ARGUMENT, () -> x.sum(id, time));
        check.refuses("together", ARGUMENT, () -> x.together(id, time, 0, 0));
    }

    private static void everyCallRefusesTheOtherKinds() {
        for (int kind = 0; kind <= 5; kind++) {
            EditablePast x = opened(kind);
            if (kind > 1) {
                check.refuses("front of kind " + kind, STATE, () -> x.front(0, 1));
            }
            if (kind == 4) {
                check.refuses("size of kind " + kind, STATE, () -> x.size(0, 1));
            }
            if (kind != 2) {
                check.refuses("at of kind " + kind, STATE, () -> x.at(0, 1, 1));
            }
            if (kind != 3) {
                check.refuses("least of kind " + kind, STATE, () -> x.least(0, 1, -1));
            }
            if (kind != 4) {
                check.refuses("sum of kind " + kind, STATE, () -> x.sum(0, 1));
            }
            if (kind != 5) {
                check.refuses("together of kind " + kind, STATE, () -> x.together(0, 1, 1, 1));
            }
        }
    }

    private static void askingChangesNothing() {
        EditablePast x = threePutsAndTwoTakes(0);
        x.open(1, 0);
        x.put(1, 5, 1, 99, 0);
        check.due("late", 8, x.front(0, MAX));
        check.due("another collection of the kind", 99, x.front(1, MAX));
        check.due("early", 7, x.front(0, 10));
        check.due("late again", 8, x.front(0, MAX));
        check.due("result", 3, x.result(0, 50));
        check.due("firstChange", 20, x.firstChange(0, 1, MAX));
    }
}
