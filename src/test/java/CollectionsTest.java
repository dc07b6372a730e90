/** Promises 1 to 3: a new object, open, close. */
public final class CollectionsTest {
    private static final Class<IllegalArgumentException> ARGUMENT = IllegalArgumentException.class;
    private static final Class<IllegalStateException> STATE = IllegalStateException.class;

    private static final Check check = new Check();

    public static void main(String[] args) {
        newObjectHasNothingOpen();
        openTakesEveryCollectionAndKind();
        openRefusesWhatIsNone();
        openRefusesWhatIsOpen();
        closeTellsHowManyThereWere();
        closeRefuses();
        openAgainBeginsWithNothing();
        collectionsAndObjectsAreApart();
        check.end();
    }

    private static void newObjectHasNothingOpen() {
        EditablePast x = new EditablePast();
        for (int i = 0; i < 4; i++) {
            int id = i;
            check.refuses("new: close", STATE, () -> x.close(id));
            check.refuses("new: operations", STATE, () -> x.operations(id));
            check.refuses("new: put", STATE, () -> x.put(id, 1, 1, 0, 0));
            check.refuses("new: strike", STATE, () -> x.strike(id, 1));
            check.refuses("new: shift", STATE, () -> x.shift(id, 1, 2));
            check.refuses("new: front", STATE, () -> x.front(id, 1));
            check.refuses("new: size", STATE, () -> x.size(id, 1));
            check.refuses("new: at", STATE, () -> x.at(id, 1, 0));
            check.refuses("new: least", STATE, () -> x.least(id, 1, 0));
            check.refuses("new: sum", STATE, () -> x.sum(id, 1));
            check.refuses("new: together", STATE, () -> x.together(id, 1, 0, 0));
            check.refuses("new: result", STATE, () -> x.result(id, 1));
            check.refuses("new: works", STATE, () -> x.works(id, 1));
            check.refuses("new: effective", STATE, () -> x.effective(id, 1, 2));
            check.refuses("new: firstChange", STATE, () -> x.firstChange(id, 1, 2));
            check.refuses("new: operation", STATE, () -> x.operation(id, 0, 0));
        }
    }

    private static void openTakesEveryCollectionAndKind() {
        EditablePast x = new EditablePast();
        for (int kind = 0; kind <= 5; kind++) {
            for (int id = 0; id <= 3; id++) {
                x.open(id, kind);
                check.due("operations of a new one", 0, x.operations(id));
            }
            for (int id = 0; id <= 3; id++) {
                check.due("close of an empty one", 0, x.close(id));
            }
        }
    }

    private static void openRefusesWhatIsNone() {
        EditablePast x = new EditablePast();
        check.refuses("open(-1, 0)", ARGUMENT, () -> x.open(-1, 0));
        check.refuses("open(4, 0)", ARGUMENT, () -> x.open(4, 0));
        check.refuses("open(0, -1)", ARGUMENT, () -> x.open(0, -1));
        check.refuses("open(0, 6)", ARGUMENT, () -> x.open(0, 6));
        check.refuses("open(MIN, MAX)", ARGUMENT, () -> x.open(Integer.MIN_VALUE, Integer.MAX_VALUE));
        check.refuses("still not open", STATE, () -> x.operations(0));
    }

    private static void openRefusesWhatIsOpen() {
        EditablePast x = new EditablePast();
        x.open(0, 0);
        x.put(0, 5, 1, 9, 0);
        check.refuses("open again", STATE, () -> x.open(0, 0));
        check.refuses("open again as another kind", STATE, () -> x.open(0, 5));
        check.refuses("open again as no kind: the argument is named first", ARGUMENT, () -> x.open(0, 6));
        check.due("front after the refused open", 9, x.front(0, 5));
    }

    private static void closeTellsHowManyThereWere() {
        EditablePast x = new EditablePast();
        x.open(2, 1);
        x.put(2, 5, 1, 9, 0);
        x.put(2, 6, 2, 0, 0);
        x.put(2, 7, 2, 0, 0);
        check.due("close counts those without effect, too", 3, x.close(2));
        check.refuses("operations after close", STATE, () -> x.operations(2));
    }

    private static void closeRefuses() {
        EditablePast x = new EditablePast();
        check.refuses("close(-1)", ARGUMENT, () -> x.close(-1));
        check.refuses("close(4)", ARGUMENT, () -> x.close(4));
        x.open(3, 3);
        x.close(3);
        check.refuses("close twice", STATE, () -> x.close(3));
    }

    private static void openAgainBeginsWithNothing() {
        EditablePast x = new EditablePast();
        x.open(1, 0);
        x.put(1, 5, 1, 9, 0);
        x.put(1, 6, 1, 8, 0);
        x.close(1);
        x.open(1, 5);
        check.due("operations", 0, x.operations(1));
        check.due("firstChange", 0, x.firstChange(1, 1, 1000000000));
        check.due("effective", 0, x.effective(1, 1, 1000000000));
        check.due("size", 16, x.size(1, 1000000000));
        check.due("strike", false, x.strike(1, 5));
        check.due("close", 0, x.close(1));
    }

    private static void collectionsAndObjectsAreApart() {
        EditablePast x = new EditablePast();
        EditablePast y = new EditablePast();
        for (int id = 0; id < 4; id++) {
            x.open(id, 0);
            x.put(id, 5, 1, id, 0);
        }
        x.put(1, 4, 1, 100, 0);
        for (int id = 0; id < 4; id++) {
            check.due("front of collection " + id, id == 1 ? 100 : id, x.front(id, 5));
        }
        check.due("firstChange of another collection", 5, x.firstChange(2, 1, 10));
        check.refuses("another object", STATE, () -> y.front(0, 5));
    }
}
