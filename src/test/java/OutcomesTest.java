import java.util.NoSuchElementException;

/** Promises 13 to 16: result, works, effective, firstChange. */
public final class OutcomesTest {
    private static final int MAX = 1000000000;
    private static final Class<IllegalArgumentException> ARGUMENT = IllegalArgumentException.class;
    private static final Class<IllegalStateException> STATE = IllegalStateException.class;
    private static final Class<NoSuchElementException> NONE = NoSuchElementException.class;

    private static final Check check = new Check();

    public static void main(String[] args) {
        outcomesOfWhatHoldsValues();
        outcomesOfATable();
        outcomesOfARegister();
        outcomesOfSets();
        resultAndWorksRefuse();
        effectiveCounts();
        effectiveRefuses();
        firstChangeOfEachEdit();
        firstChangeSeesResults();
        firstChangeSeesEffects();
        firstChangeOfShift();
        firstChangeHasBounds();
        firstChangeLooksAtTheLatestEditAlone();
        firstChangeRefuses();
        check.end();
    }

    private static EditablePast opened(int kind) {
        EditablePast x = new EditablePast();
        x.open(0, kind);
        return x;
    }

    private static void outcome(EditablePast x, int time, long result, boolean works) {
        check.due("result at " + time, result, x.result(0, time));
        check.due("works at " + time, works, x.works(0, time));
    }

    private static void outcomesOfWhatHoldsValues() {
        long[][] taken = {{4, 2}, {2, 9}, {}, {2, 4}};
        for (int kind : new int[] {0, 1, 3}) {
            EditablePast x = opened(kind);
            x.put(0, 70, 2, 0, 0);
            x.put(0, 10, 2, 0, 0);
            x.put(0, 20, 1, 4, 0);
            x.put(0, 40, 1, 2, 0);
            x.put(0, 50, 2, 0, 0);
            x.put(0, 60, 1, 9, 0);
            outcome(x, 10, 0, false);
            outcome(x, 20, 0, true);
            outcome(x, 40, 0, true);
            outcome(x, 50, taken[kind][0], true);
            outcome(x, 60, 0, true);
            outcome(x, 70, taken[kind][1], true);
            x.put(0, 80, 2, 0, 0);
            x.put(0, 90, 2, 0, 0);
            check.due("the third is taken", true, x.works(0, 80));
            outcome(x, 90, 0, false);
        }
        EditablePast x = opened(0);
        x.put(0, 1, 1, 0, 0);
        x.put(0, 2, 2, 0, 0);
        outcome(x, 2, 0, true);
    }

    private static void outcomesOfATable() {
        EditablePast x = opened(2);
        x.put(0, 10, 2, 4, 0);
        x.put(0, 20, 1, 4, 40);
        x.put(0, 30, 1, 4, 41);
        x.put(0, 40, 1, 5, 50);
        x.put(0, 50, 2, 4, 0);
        x.put(0, 60, 2, 4, 0);
        x.put(0, 70, 2, 5, 0);
        outcome(x, 10, 0, false);
        outcome(x, 20, 0, true);
        outcome(x, 30, 0, false);
        outcome(x, 40, 0, true);
        outcome(x, 50, 40, true);
        outcome(x, 60, 0, false);
        outcome(x, 70, 50, true);
        x.strike(0, 20);
        outcome(x, 30, 0, true);
        outcome(x, 50, 41, true);
    }

    private static void outcomesOfARegister() {
        EditablePast x = opened(4);
        x.put(0, 10, 1, -5, 0);
        x.put(0, 20, 1, 0, 0);
        x.put(0, 30, 1, 7, 0);
        x.put(0, 40, 1, -3, 0);
        outcome(x, 10, 0, true);
        outcome(x, 20, 0, true);
        outcome(x, 30, 7, true);
        outcome(x, 40, 4, true);
        for (int i = 0; i < 4; i++) {
            x.put(0, 50 + i, 1, MAX, 0);
        }
        outcome(x, 53, 4000000004L, true);
    }

    private static void outcomesOfSets() {
        EditablePast x = opened(5);
        x.put(0, 10, 1, 1, 2);
        x.put(0, 20, 1, 2, 3);
        x.put(0, 30, 1, 3, 1);
        x.put(0, 40, 1, 9, 9);
        outcome(x, 10, 0, true);
        outcome(x, 20, 0, true);
        outcome(x, 30, 0, false);
        outcome(x, 40, 0, false);
        x.strike(0, 10);
        outcome(x, 30, 0, true);
    }

    private static void resultAndWorksRefuse() {
        EditablePast x = opened(0);
        x.put(0, 10, 1, 1, 0);
        for (int time : new int[] {1, 9, 11, MAX}) {
            check.refuses("result, none", NONE, () -> x.result(0, time));
            check.refuses("works, none", NONE, () -> x.works(0, time));
        }
        for (int time : new int[] {0, -1, MAX + 1}) {
            check.refuses("result, no moment", ARGUMENT, () -> x.result(1, time));
            check.refuses("works, no moment", ARGUMENT, () -> x.works(1, time));
        }
        for (int id : new int[] {-1, 4}) {
            check.refuses("result, no collection", ARGUMENT, () -> x.result(id, 10));
            check.refuses("works, no collection", ARGUMENT, () -> x.works(id, 10));
        }
        check.refuses("result, not open", STATE, () -> x.result(1, 10));
        check.refuses("works, not open", STATE, () -> x.works(1, 10));
        x.strike(0, 10);
        check.refuses("result, struck", NONE, () -> x.result(0, 10));
    }

    private static void effectiveCounts() {
        EditablePast x = opened(0);
        check.due("an empty line", 0, x.effective(0, 1, MAX));
        x.put(0, 10, 2, 0, 0);
        x.put(0, 20, 1, 1, 0);
        x.put(0, 30, 2, 0, 0);
        x.put(0, 40, 2, 0, 0);
        x.put(0, 50, 1, 2, 0);
        check.due("all", 3, x.effective(0, 1, MAX));
        check.due("both ends count", 3, x.effective(0, 20, 50));
        check.due("behind the first", 2, x.effective(0, 21, 50));
        check.due("before the last", 2, x.effective(0, 20, 49));
        check.due("one moment", 1, x.effective(0, 30, 30));
        check.due("one moment, no effect", 0, x.effective(0, 40, 40));
        check.due("one moment, none", 0, x.effective(0, 35, 35));
        check.due("the first one is later", 0, x.effective(0, 50, 20));
        check.due("the first one is later", 0, x.effective(0, MAX, 1));
    }

    private static void effectiveRefuses() {
        EditablePast x = opened(0);
        check.refuses("no collection", ARGUMENT, () -> x.effective(4, 1, 2));
        check.refuses("from no moment", ARGUMENT, () -> x.effective(0, 0, 2));
        check.refuses("to no moment", ARGUMENT, () -> x.effective(0, 1, MAX + 1));
        check.refuses("to no moment, not open", ARGUMENT, () -> x.effective(1, 5, 0));
        check.refuses("from no moment, and later", ARGUMENT, () -> x.effective(0, MAX + 1, 1));
        check.refuses("not open", STATE, () -> x.effective(1, 1, 2));
    }

    private static void firstChangeOfEachEdit() {
        EditablePast x = opened(0);
        check.due("no edit", 0, x.firstChange(0, 1, MAX));
        check.due("strike of none", false, x.strike(0, 5));
        check.due("no edit yet", 0, x.firstChange(0, 1, MAX));
        x.put(0, 50, 1, 7, 0);
        check.due("put", 50, x.firstChange(0, 1, MAX));
        x.put(0, 60, 2, 0, 0);
        check.due("put behind", 60, x.firstChange(0, 1, MAX));
        x.put(0, 55, 1, 8, 0);
        check.due("put between", 55, x.firstChange(0, 1, MAX));
        check.due("what was taken is the same", 0, x.firstChange(0, 56, MAX));
        x.strike(0, 50);
        check.due("strike", 50, x.firstChange(0, 1, MAX));
        check.due("what was taken is another one", 60, x.firstChange(0, 51, MAX));
        x.strike(0, 60);
        check.due("strike the last", 60, x.firstChange(0, 1, MAX));
        x.strike(0, 55);
        check.due("strike the only one", 55, x.firstChange(0, 1, MAX));
    }

    private static void firstChangeSeesResults() {
        EditablePast x = opened(4);
        x.put(0, 20, 1, 5, 0);
        x.put(0, 30, 1, -9, 0);
        x.put(0, 40, 1, 1, 0);
        x.put(0, 10, 1, 2, 0);
        check.due("the sum then", 20, x.firstChange(0, 11, MAX));
        check.due("0 before and now", 0, x.firstChange(0, 21, MAX));
        x.put(0, 25, 1, 3, 0);
        check.due("10 less 9", 30, x.firstChange(0, 26, MAX));
        check.due("and behind", 40, x.firstChange(0, 31, MAX));
    }

    private static void firstChangeSeesEffects() {
        EditablePast sets = opened(5);
        sets.put(0, 30, 1, 1, 2);
        sets.put(0, 20, 1, 2, 1);
        check.due("the later one lost its effect", 30, sets.firstChange(0, 21, MAX));
        sets.strike(0, 20);
        check.due("and has it again", 30, sets.firstChange(0, 21, MAX));
        EditablePast table = opened(2);
        table.put(0, 30, 1, 4, 9);
        table.put(0, 20, 1, 4, 9);
        check.due("a key given earlier", 30, table.firstChange(0, 21, MAX));
        EditablePast queue = opened(0);
        queue.put(0, 30, 2, 0, 0);
        queue.put(0, 20, 1, 0, 0);
        check.due("0 taken is not nothing taken", 30, queue.firstChange(0, 21, MAX));
    }

    private static void firstChangeOfShift() {
        EditablePast x = opened(0);
        x.put(0, 10, 1, 1, 0);
        x.put(0, 20, 1, 2, 0);
        x.put(0, 30, 2, 0, 0);
        x.shift(0, 10, 25);
        check.due("where it was", 10, x.firstChange(0, 1, MAX));
        check.due("where it is", 25, x.firstChange(0, 11, MAX));
        check.due("what is taken now", 30, x.firstChange(0, 26, MAX));
        x.shift(0, 25, 12);
        check.due("where it is now", 12, x.firstChange(0, 1, MAX));
        check.due("where it was then", 25, x.firstChange(0, 13, MAX));
    }

    private static void firstChangeHasBounds() {
        EditablePast x = opened(0);
        x.put(0, 50, 1, 7, 0);
        check.due("just there", 50, x.firstChange(0, 50, 50));
        check.due("up to it", 50, x.firstChange(0, 1, 50));
        check.due("from it", 50, x.firstChange(0, 50, MAX));
        check.due("all before", 0, x.firstChange(0, 1, 49));
        check.due("all behind", 0, x.firstChange(0, 51, MAX));
        check.due("the first one is later", 0, x.firstChange(0, 60, 40));
        check.due("the first one is later", 0, x.firstChange(0, 50, 49));
        x.put(0, MAX, 1, 7, 0);
        check.due("the last moment", MAX, x.firstChange(0, 1, MAX));
        x.put(0, 1, 1, 7, 0);
        check.due("the first moment", 1, x.firstChange(0, 1, 1));
    }

    private static void firstChangeLooksAtTheLatestEditAlone() {
        EditablePast x = opened(0);
        x.put(0, 10, 1, 1, 0);
        x.put(0, 90, 1, 9, 0);
        check.due("only the latest", 90, x.firstChange(0, 1, MAX));
        check.due("a strike of none is no edit", false, x.strike(0, 91));
        check.due("still", 90, x.firstChange(0, 1, MAX));
        x.strike(0, 90);
        check.due("the strike is one", 90, x.firstChange(0, 1, MAX));
        x.put(0, 90, 1, 9, 0);
        check.due("the same one put again is one", 90, x.firstChange(0, 1, MAX));
        x.strike(0, 90);
        x.close(0);
        x.open(0, 0);
        check.due("opened anew", 0, x.firstChange(0, 1, MAX));
    }

    private static void firstChangeRefuses() {
        EditablePast x = opened(0);
        check.refuses("no collection", ARGUMENT, () -> x.firstChange(-1, 1, 2));
        check.refuses("from no moment", ARGUMENT, () -> x.firstChange(0, 0, 2));
        check.refuses("to no moment", ARGUMENT, () -> x.firstChange(0, 1, MAX + 1));
        check.refuses("to no moment, not open", ARGUMENT, () -> x.firstChange(1, 5, 0));
        check.refuses("from no moment, and later", ARGUMENT, () -> x.firstChange(0, MAX + 1, 1));
        check.refuses("not open", STATE, () -> x.firstChange(1, 1, 2));
    }
}
