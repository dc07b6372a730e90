import java.util.NoSuchElementException;

/** Promises 4 to 6: put, strike, shift. */
public final class EditsTest {
    private static final int MAX = 1000000000;
    private static final Class<IllegalArgumentException> ARGUMENT = IllegalArgumentException.class;
    private static final Class<IllegalStateException> STATE = IllegalStateException.class;
    private static final Class<UnsupportedOperationException> UNSUPPORTED = UnsupportedOperationException.class;
    private static final Class<NoSuchElementException> NONE = NoSuchElementException.class;

    private static final Check check = new Check();

    public static void main(String[] args) {
        putKeepsTheOrderOfMoments();
        putLooksAtWhatEachKindAllows();
        putRefusesInOrder();
        putRefusesTheThirtyThird();
        strikeTellsWhetherThereWasOne();
        strikeRefuses();
        shiftMoves();
        shiftWorksOnAFullLine();
        shiftRefusesInOrder();
        refusedEditsChangeNothing();
        check.end();
    }

    private static EditablePast opened(int kind) {
        EditablePast x = new EditablePast();
        x.open(0, kind);
        return x;
    }

    private static String line(EditablePast x) {
        StringBuilder text = new StringBuilder();
        for (int i = 0; i < x.operations(0); i++) {
            for (int f = 0; f <= 3; f++) {
                text.append(x.operation(0, i, f)).append(f < 3 ? ' ' : ';');
            }
        }
        return text.toString();
    }

    private static void putKeepsTheOrderOfMoments() {
        EditablePast x = opened(2);
        x.put(0, 20, 1, 5, 6);
        x.put(0, MAX, 2, 5, 0);
        x.put(0, 1, 2, 9, 0);
        x.put(0, 10, 1, 7, 8);
        check.due("the line", "1 2 9 0;10 1 7 8;20 1 5 6;1000000000 2 5 0;", line(x));
    }

    private static void putLooksAtWhatEachKindAllows() {
        for (int kind : new int[] {0, 1, 3}) {
            allows(kind, 1, 0, 0);
            allows(kind, 1, MAX, 0);
            allows(kind, 2, 0, 0);
            rejects(kind, 1, -1, 0);
            rejects(kind, 1, MAX + 1, 0);
            rejects(kind, 1, 5, 1);
            rejects(kind, 1, 5, -1);
            rejects(kind, 2, 1, 0);
            rejects(kind, 2, -1, 0);
            rejects(kind, 2, 0, 1);
        }
        allows(2, 1, 0, 0);
        allows(2, 1, MAX, MAX);
        allows(2, 2, 0, 0);
        allows(2, 2, MAX, 0);
        rejects(2, 1, -1, 0);
        rejects(2, 1, MAX + 1, 0);
        rejects(2, 1, 0, -1);
        rejects(2, 1, 0, MAX + 1);
        rejects(2, 2, -1, 0);
        rejects(2, 2, MAX + 1, 0);
        rejects(2, 2, 5, 1);
        rejects(2, 2, 5, -1);
        allows(4, 1, -MAX, 0);
        allows(4, 1, MAX, 0);
        rejects(4, 1, -MAX - 1, 0);
        rejects(4, 1, MAX + 1, 0);
        rejects(4, 1, 5, 1);
        rejects(4, 1, 5, -1);
        rejects(4, 2, 0, 0);
        allows(5, 1, 0, 15);
        allows(5, 1, 15, 0);
        allows(5, 1, 3, 3);
        rejects(5, 1, -1, 0);
        rejects(5, 1, 16, 0);
        rejects(5, 1, 0, -1);
        rejects(5, 1, 0, 16);
        rejects(5, 2, 0, 0);
        for (int kind = 0; kind <= 5; kind++) {
            rejects(kind, 0, 0, 0);
            rejects(kind, 3, 0, 0);
            rejects(kind, -1, 0, 0);
            rejects(kind, Integer.MIN_VALUE, 0, 0);
        }
    }

    private static void allows(int kind, int name, int a, int b) {
        EditablePast x = opened(kind);
        x.put(0, 5, name, a, b);
        check.due("kind " + kind, "5 " + name + " " + a + " " + b + ";", line(x));
    }

    private static void rejects(int kind, int name, int a, int b) {
        EditablePast x = opened(kind);
        check.refuses("kind " + kind + ", put " + name + " " + a + " " + b, UNSUPPORTED, () -> x.put(0, 5, name, a, b));
        check.due("operations after it", 0, x.operations(0));
    }

    private static void putRefusesInOrder() {
        EditablePast x = opened(0);
        x.put(0, 5, 1, 1, 0);
        check.refuses("no collection", ARGUMENT, () -> x.put(-1, 5, 1, 1, 0));
        check.refuses("no collection", ARGUMENT, () -> x.put(4, 5, 1, 1, 0));
        check.refuses("moment 0", ARGUMENT, () -> x.put(0, 0, 1, 1, 0));
        check.refuses("moment -1", ARGUMENT, () -> x.put(0, -1, 1, 1, 0));
        check.refuses("moment past the last", ARGUMENT, () -> x.put(0, MAX + 1, 1, 1, 0));
        check.refuses("no moment, not open, no name", ARGUMENT, () -> x.put(1, 0, 7, 1, 0));
        check.refuses("not open", STATE, () -> x.put(1, 5, 1, 1, 0));
        check.refuses("not open, no name", STATE, () -> x.put(1, 5, 7, 1, 0));
        check.refuses("moment taken", STATE, () -> x.put(0, 5, 1, 1, 0));
        check.refuses("moment taken, no name", STATE, () -> x.put(0, 5, 7, 1, 0));
    }

    private static void putRefusesTheThirtyThird() {
        EditablePast x = opened(0);
        for (int i = 1; i <= 32; i++) {
            x.put(0, 10 * i, 1, i, 0);
        }
        check.due("operations of a full line", 32, x.operations(0));
        check.refuses("the 33rd", STATE, () -> x.put(0, 5, 1, 1, 0));
        check.refuses("the 33rd, no name", STATE, () -> x.put(0, 5, 7, 1, 0));
        check.refuses("the 33rd, no moment", ARGUMENT, () -> x.put(0, 0, 1, 1, 0));
        check.due("size of a full line", 32, x.size(0, MAX));
        x.strike(0, 320);
        x.put(0, 5, 1, 33, 0);
        check.due("front after one was struck", 33, x.front(0, MAX));
        x.open(1, 0);
        x.put(1, 5, 1, 1, 0);
        check.due("the other line has its own count", 1, x.operations(1));
    }

    private static void strikeTellsWhetherThereWasOne() {
        EditablePast x = opened(0);
        check.due("strike on an empty line", false, x.strike(0, 5));
        x.put(0, 10, 1, 1, 0);
        x.put(0, 20, 1, 2, 0);
        x.put(0, 30, 1, 3, 0);
        check.due("strike before", false, x.strike(0, 9));
        check.due("strike between", false, x.strike(0, 11));
        check.due("strike behind", false, x.strike(0, MAX));
        check.due("strike the middle one", true, x.strike(0, 20));
        check.due("the line", "10 1 1 0;30 1 3 0;", line(x));
        check.due("strike it again", false, x.strike(0, 20));
        check.due("strike the last one", true, x.strike(0, 30));
        check.due("strike the first one", true, x.strike(0, 10));
        check.due("the line", "", line(x));
        x.put(0, 20, 1, 4, 0);
        check.due("the moment is free again", "20 1 4 0;", line(x));
    }

    private static void strikeRefuses() {
        EditablePast x = opened(0);
        check.refuses("no collection", ARGUMENT, () -> x.strike(4, 5));
        check.refuses("moment 0", ARGUMENT, () -> x.strike(0, 0));
        check.refuses("moment past the last", ARGUMENT, () -> x.strike(0, MAX + 1));
        check.refuses("no moment, not open", ARGUMENT, () -> x.strike(1, 0));
        check.refuses("not open", STATE, () -> x.strike(1, 5));
    }

    private static void shiftMoves() {
        EditablePast x = opened(2);
        x.put(0, 10, 1, 4, 40);
        x.put(0, 20, 1, 5, 50);
        x.put(0, 30, 2, 4, 0);
        x.shift(0, 10, 25);
        check.due("later, past another one", "20 1 5 50;25 1 4 40;30 2 4 0;", line(x));
        x.shift(0, 30, 1);
        check.due("to the front", "1 2 4 0;20 1 5 50;25 1 4 40;", line(x));
        x.shift(0, 20, 21);
        check.due("not past any", "1 2 4 0;21 1 5 50;25 1 4 40;", line(x));
        x.shift(0, 1, MAX);
        check.due("to the end", "21 1 5 50;25 1 4 40;1000000000 2 4 0;", line(x));
        check.due("the run is the new line's", 40, x.result(0, MAX));
    }

    private static void shiftWorksOnAFullLine() {
        EditablePast x = opened(1);
        for (int i = 1; i <= 32; i++) {
            x.put(0, 10 * i, 1, i, 0);
        }
        x.shift(0, 320, 5);
        check.due("front", 31, x.front(0, MAX));
        x.shift(0, 10, 500);
        check.due("front", 1, x.front(0, MAX));
        check.due("operations", 32, x.operations(0));
    }

    private static void shiftRefusesInOrder() {
        EditablePast x = opened(0);
        x.put(0, 5, 1, 1, 0);
        x.put(0, 7, 1, 2, 0);
        check.refuses("no collection", ARGUMENT, () -> x.shift(-1, 5, 6));
        check.refuses("no moment", ARGUMENT, () -> x.shift(0, 0, 6));
        check.refuses("no moment", ARGUMENT, () -> x.shift(0, MAX + 1, 6));
        check.refuses("to no moment", ARGUMENT, () -> x.shift(0, 5, 0));
        check.refuses("to no moment", ARGUMENT, () -> x.shift(0, 5, MAX + 1));
        check.refuses("to no moment, not open", ARGUMENT, () -> x.shift(1, 5, 0));
        check.refuses("not open", STATE, () -> x.shift(1, 5, 6));
        check.refuses("to a taken moment", STATE, () -> x.shift(0, 5, 7));
        check.refuses("to its own moment", STATE, () -> x.shift(0, 5, 5));
        check.refuses("none, to a taken moment", STATE, () -> x.shift(0, 6, 7));
        check.refuses("none", NONE, () -> x.shift(0, 6, 8));
        check.refuses("none, to the same free moment", NONE, () -> x.shift(0, 6, 6));
        check.due("the line", "5 1 1 0;7 1 2 0;", line(x));
    }

    private static void refusedEditsChangeNothing() {
        EditablePast x = opened(0);
        x.put(0, 5, 1, 1, 0);
        x.put(0, 7, 1, 2, 0);
        check.refuses("put", STATE, () -> x.put(0, 5, 2, 0, 0));
        check.refuses("put", UNSUPPORTED, () -> x.put(0, 6, 2, 1, 0));
        check.refuses("shift", STATE, () -> x.shift(0, 5, 7));
        check.refuses("shift", NONE, () -> x.shift(0, 6, 8));
        check.due("strike", false, x.strike(0, 6));
        check.due("the line", "5 1 1 0;7 1 2 0;", line(x));
        check.due("the latest edit is still the put at 7", 7, x.firstChange(0, 1, MAX));
    }
}
