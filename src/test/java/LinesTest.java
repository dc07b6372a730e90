/** Promises 17 and 18: operations, operation. */
public final class LinesTest {
    private static final Class<IllegalArgumentException> ARGUMENT = IllegalArgumentException.class;
    private static final Class<IllegalStateException> STATE = IllegalStateException.class;
    private static final Class<IndexOutOfBoundsException> INDEX = IndexOutOfBoundsException.class;

    private static final Check check = new Check();

    public static void main(String[] args) {
        operationsCounts();
        operationTellsEachNumber();
        operationGoesByMoments();
        operationRefusesInOrder();
        check.end();
    }

    private static void operationsCounts() {
        EditablePast x = new EditablePast();
        check.refuses("not open", STATE, () -> x.operations(0));
        x.open(0, 0);
        check.due("none", 0, x.operations(0));
        x.put(0, 10, 2, 0, 0);
        check.due("one without effect", 1, x.operations(0));
        x.put(0, 5, 1, 3, 0);
        check.due("two", 2, x.operations(0));
        x.shift(0, 5, 50);
        check.due("shifted", 2, x.operations(0));
        x.strike(0, 6);
        check.due("strike of none", 2, x.operations(0));
        x.strike(0, 10);
        check.due("one struck", 1, x.operations(0));
        check.refuses("operations(-1)", ARGUMENT, () -> x.operations(-1));
        check.refuses("operations(4)", ARGUMENT, () -> x.operations(4));
        x.close(0);
        check.refuses("closed", STATE, () -> x.operations(0));
    }

    private static void operationTellsEachNumber() {
        EditablePast x = new EditablePast();
        x.open(3, 2);
        x.put(3, 77, 1, 88, 99);
        x.put(3, 78, 2, 66, 0);
        int[][] want = {{77, 1, 88, 99}, {78, 2, 66, 0}};
        for (int i = 0; i < 2; i++) {
            for (int f = 0; f <= 3; f++) {
                check.due("operation " + i + ", number " + f, want[i][f], x.operation(3, i, f));
            }
        }
        x.open(0, 4);
        x.put(0, 1000000000, 1, -1000000000, 0);
        check.due("a of a register", -1000000000, x.operation(0, 0, 2));
        check.due("the last moment", 1000000000, x.operation(0, 0, 0));
    }

    private static void operationGoesByMoments() {
        EditablePast x = new EditablePast();
        x.open(0, 0);
        // 7 has no factor in common with 32, so each of 1 .. 32 comes once, in no order.
        for (int i = 0; i < 32; i++) {
            int moment = 1 + i * 7 % 32;
            x.put(0, moment, 1, 100 + moment, 0);
        }
        for (int i = 0; i < 32; i++) {
            check.due("moment of the " + i + "th", 1 + i, x.operation(0, i, 0));
            check.due("a of the " + i + "th", 101 + i, x.operation(0, i, 2));
        }
        check.refuses("the 32nd from 0", INDEX, () -> x.operation(0, 32, 0));
    }

    private static void operationRefusesInOrder() {
        EditablePast x = new EditablePast();
        x.open(0, 0);
        check.refuses("an empty line", INDEX, () -> x.operation(0, 0, 0));
        x.put(0, 5, 1, 1, 0);
        check.refuses("i = 1 of one", INDEX, () -> x.operation(0, 1, 0));
        check.refuses("i = -1", INDEX, () -> x.operation(0, -1, 0));
        check.refuses("i = MAX", INDEX, () -> x.operation(0, Integer.MAX_VALUE, 3));
        check.refuses("f = -1", ARGUMENT, () -> x.operation(0, 0, -1));
        check.refuses("f = 4", ARGUMENT, () -> x.operation(0, 0, 4));
        check.refuses("f = 4, not open", ARGUMENT, () -> x.operation(1, 0, 4));
        check.refuses("f = 4, no index", ARGUMENT, () -> x.operation(0, 9, 4));
        check.refuses("no collection", ARGUMENT, () -> x.operation(4, 0, 0));
        check.refuses("no collection", ARGUMENT, () -> x.operation(-1, 0, 0));
        check.refuses("not open", STATE, () -> x.operation(1, 0, 0));
        check.refuses("not open, no index", STATE, () -> x.operation(1, -1, 0));
    }
}
