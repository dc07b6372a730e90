/** The boundary cases of promises 7 to 18: each sentence that names one has a test of its own. */
public final class AskBoundsTest {
    private static final int MAX = Calls.MAX;
    private static final int[] FAR = {Integer.MIN_VALUE, -MAX, -1, MAX, Integer.MAX_VALUE};

    private static final Check check = new Check();

    public static void main(String[] args) {
        frontOfNothing();
        frontOfAFullLine();
        callsAreForTheirKinds();
        sizeOfNothingAndOfAll();
        atOfAKeyWithoutValue();
        leastOfTooFew();
        sumAtFirst();
        togetherOfNoElement();
        resultAndWorksOfNone();
        effectiveWhenTheFirstIsLater();
        effectiveCountsBothEnds();
        firstChangeWithoutEdit();
        firstChangeOfWhatDidNothing();
        firstChangeSinceItWasOpened();
        firstChangeOfTheLatestEdit();
        firstChangeWhereOneHasNone();
        firstChangeOfAnotherResult();
        firstChangeOfAnEffectInOne();
        firstChangeFromOneToAnother();
        operationsOfALine();
        operationRefusesNoNumber();
        operationRefusesNoPlace();
        check.end();
    }

    private static Scene filled(int kind, int operations) {
        Scene scene = Scene.opened(check, kind);
        for (int i = 1; i <= operations; i++) {
            scene.puts(0, 10 * i, 1, kind == 5 ? i % 16 : 100 + i, 0);
        }
        return scene;
    }

    private static void frontOfNothing() {
        check.sentence("No such element: nothing is in.");
        for (int kind : new int[] {0, 1}) {
            Scene scene = Scene.opened(check, kind);
            scene.refuses(Calls.NONE, "front", 0, 1);
            scene.refuses(Calls.NONE, "front", 0, MAX);
            scene.puts(0, 10, 1, 0, 0).puts(0, 20, 2, 0, 0).puts(0, 30, 2, 0, 0).puts(0, 40, 1, 3, 0);
            scene.refuses(Calls.NONE, "front", 0, 9);
            scene.asks(0, "front", 0, 10);
            scene.asks(0, "front", 0, 19);
            scene.refuses(Calls.NONE, "front", 0, 20);
            scene.refuses(Calls.NONE, "front", 0, 30);
            scene.refuses(Calls.NONE, "front", 0, 39);
            scene.asks(3, "front", 0, 40);
            scene.does(1, "strike", 0, 40);
            scene.refuses(Calls.NONE, "front", 0, MAX);
        }
    }

    private static void frontOfAFullLine() {
        check.sentence("the value that would be taken next behind a moment's run");
        for (int i = 1; i <= 32; i++) {
            filled(0, 32).asks(101, "front", 0, 10 * i);
            filled(1, 32).asks(100 + i, "front", 0, 10 * i);
        }
        Scene ends = Scene.opened(check, 1).puts(0, 1, 1, 0, 0).puts(0, MAX, 1, MAX, 0);
        ends.asks(0, "front", 0, 1);
        ends.asks(0, "front", 0, MAX - 1);
        ends.asks(MAX, "front", 0, MAX);
    }

    private static void callsAreForTheirKinds() {
        check.sentence("or not of a kind that the call is for");
        String[] names = {"front", "size", "at", "least", "sum", "together"};
        String[] kinds = {"01", "01235", "2", "3", "4", "5"};
        for (int kind = 0; kind <= 5; kind++) {
            for (int operations : new int[] {0, 1, 32}) {
                Scene scene = filled(kind, operations);
                for (int i = 0; i < names.length; i++) {
                    if (kinds[i].indexOf('0' + kind) < 0) {
                        scene.refuses(Calls.STATE, names[i], 0, 1, 0, 0);
                        scene.refuses(Calls.STATE, names[i], 0, MAX, 15, 15);
                    }
                }
            }
        }
    }

    private static void sizeOfNothingAndOfAll() {
        check.sentence("how many values, keys, or sets there are behind a moment's run");
        for (int kind : new int[] {0, 1, 2, 3}) {
            Scene scene = filled(kind, 32);
            scene.asks(0, "size", 0, 1);
            scene.asks(0, "size", 0, 9);
            for (int i = 1; i <= 32; i++) {
                scene.asks(i, "size", 0, 10 * i);
            }
            scene.asks(32, "size", 0, MAX);
        }
        Scene sets = filled(5, 32);
        sets.asks(16, "size", 0, 9);
        sets.asks(15, "size", 0, 10);
        sets.asks(2, "size", 0, 149);
        sets.asks(1, "size", 0, 150);
        sets.asks(1, "size", 0, MAX);
        filled(4, 32).refuses(Calls.STATE, "size", 0, MAX);
    }

    private static void atOfAKeyWithoutValue() {
        check.sentence("No such element: it has none.");
        Scene empty = Scene.opened(check, 2);
        empty.refuses(Calls.NONE, "at", 0, 1, 0);
        empty.refuses(Calls.NONE, "at", 0, MAX, MAX);
        Scene scene = Scene.opened(check, 2);
        scene.puts(0, 10, 1, 5, 0).puts(0, 20, 2, 5, 0).puts(0, 30, 1, 5, MAX);
        scene.refuses(Calls.NONE, "at", 0, 9, 5);
        scene.asks(0, "at", 0, 10, 5);
        scene.asks(0, "at", 0, 19, 5);
        scene.refuses(Calls.NONE, "at", 0, 20, 5);
        scene.refuses(Calls.NONE, "at", 0, 29, 5);
        scene.asks(MAX, "at", 0, 30, 5);
        for (int key : new int[] {0, 4, 6, MAX}) {
            scene.refuses(Calls.NONE, "at", 0, MAX, key);
        }
        // The document names no illegal key for this call: what is none has no value.
        for (int key : new int[] {-1, MAX + 1, Integer.MIN_VALUE, Integer.MAX_VALUE}) {
            scene.refuses(Calls.NONE, "at", 0, MAX, key);
        }
        Scene full = filled(2, 32);
        full.asks(0, "at", 0, MAX, 101);
        full.asks(0, "at", 0, MAX, 132);
        full.refuses(Calls.NONE, "at", 0, MAX, 100);
        full.refuses(Calls.NONE, "at", 0, MAX, 133);
    }

    private static void leastOfTooFew() {
        check.sentence("Index out of bounds: there is none.");
        Scene empty = Scene.opened(check, 3);
        for (int k : new int[] {0, 1, -1, 31, 32}) {
            empty.refuses(Calls.INDEX, "least", 0, MAX, k);
        }
        Scene scene = Scene.opened(check, 3);
        for (int i = 32; i >= 1; i--) {
            scene.puts(0, 10 * i, 1, 100 - i, 0);
        }
        for (int values : new int[] {1, 2, 31, 32}) {
            scene.asks(100 - values, "least", 0, 10 * values, 0);
            scene.asks(99, "least", 0, 10 * values, values - 1);
            scene.refuses(Calls.INDEX, "least", 0, 10 * values, values);
            for (int k : FAR) {
                scene.refuses(Calls.INDEX, "least", 0, 10 * values, k);
            }
        }
        scene.refuses(Calls.INDEX, "least", 0, 9, 0);
        Scene taken = Scene.opened(check, 3).puts(0, 10, 1, 0, 0).puts(0, 20, 1, 0, 0).puts(0, 30, 2, 0, 0);
        taken.asks(0, "least", 0, 20, 1);
        taken.refuses(Calls.INDEX, "least", 0, 30, 1);
        taken.asks(0, "least", 0, 30, 0);
        taken.puts(0, 40, 2, 0, 0);
        taken.refuses(Calls.INDEX, "least", 0, 40, 0);
    }

    private static void sumAtFirst() {
        check.sentence("REGISTER: the sum behind a moment's run.");
        Scene scene = Scene.opened(check, 4);
        scene.asks(0, "sum", 0, 1);
        scene.asks(0, "sum", 0, MAX);
        scene.puts(0, 1, 1, MAX, 0).puts(0, MAX, 1, -MAX, 0);
        scene.asks(MAX, "sum", 0, 1);
        scene.asks(MAX, "sum", 0, MAX - 1);
        scene.asks(0, "sum", 0, MAX);
        scene.puts(0, 2, 1, MAX, 0).puts(0, 3, 1, MAX, 0);
        scene.asks(3000000000L, "sum", 0, 3);
        scene.asks(2000000000L, "sum", 0, MAX);
    }

    private static void togetherOfNoElement() {
        check.sentence("Illegal argument: also if one is not 0 .. 15.");
        Scene scene = Scene.opened(check, 5).puts(0, 10, 1, 0, 15);
        for (int wrong : new int[] {-1, 16, MAX, Integer.MIN_VALUE, Integer.MAX_VALUE}) {
            for (int right : new int[] {0, 15}) {
                scene.refuses(Calls.ARGUMENT, "together", 0, 10, wrong, right);
                scene.refuses(Calls.ARGUMENT, "together", 0, 10, right, wrong);
            }
            scene.refuses(Calls.ARGUMENT, "together", 0, 10, wrong, wrong);
        }
        scene.asks(1, "together", 0, 10, 0, 15);
        scene.asks(1, "together", 0, 10, 15, 0);
        scene.asks(0, "together", 0, 9, 0, 15);
        scene.asks(0, "together", 0, 10, 0, 14);
        scene.asks(1, "together", 0, 10, 0, 0);
        scene.asks(1, "together", 0, 9, 15, 15);
    }

    private static void resultAndWorksOfNone() {
        check.sentence("No such element: there is none.");
        for (String name : new String[] {"result", "works"}) {
            for (int kind = 0; kind <= 5; kind++) {
                Scene empty = Scene.opened(check, kind);
                empty.refuses(Calls.NONE, name, 0, 1);
                empty.refuses(Calls.NONE, name, 0, MAX);
                Scene scene = filled(kind, 32);
                for (int time : new int[] {1, 9, 11, 319, 321, MAX}) {
                    scene.refuses(Calls.NONE, name, 0, time);
                }
                scene.does(1, "strike", 0, 320).does(0, "shift", 0, 10, 5);
                scene.refuses(Calls.NONE, name, 0, 320);
                scene.refuses(Calls.NONE, name, 0, 10);
            }
        }
    }

    private static void effectiveWhenTheFirstIsLater() {
        check.sentence("(0 when the first one is later)");
        Scene scene = filled(0, 32);
        scene.asks(0, "effective", 0, MAX, 1);
        scene.asks(0, "effective", 0, 320, 10);
        scene.asks(0, "effective", 0, 20, 10);
        scene.asks(0, "effective", 0, 10, 9);
        scene.asks(0, "effective", 0, 11, 10);
        scene.asks(1, "effective", 0, 10, 10);
        scene.refuses(Calls.ARGUMENT, "effective", 0, MAX + 1, 1);
        scene.refuses(Calls.ARGUMENT, "effective", 0, 1, 0);
    }

    private static void effectiveCountsBothEnds() {
        check.sentence("How many operations from one moment to another one have an effect");
        Scene.opened(check, 0).asks(0, "effective", 0, 1, MAX);
        Scene full = filled(0, 32);
        full.asks(32, "effective", 0, 1, MAX);
        full.asks(32, "effective", 0, 10, 320);
        full.asks(31, "effective", 0, 11, 320);
        full.asks(31, "effective", 0, 10, 319);
        full.asks(0, "effective", 0, 1, 9);
        full.asks(0, "effective", 0, 321, MAX);
        Scene none = Scene.opened(check, 5);
        for (int i = 1; i <= 32; i++) {
            none.puts(0, i, 1, i % 16, i % 16);
        }
        none.asks(0, "effective", 0, 1, MAX);
        Scene ends = Scene.opened(check, 0).puts(0, 1, 1, 1, 0).puts(0, 5, 2, 0, 0).puts(0, 6, 2, 0, 0);
        ends.puts(0, MAX, 1, 1, 0);
        ends.asks(3, "effective", 0, 1, MAX);
        ends.asks(1, "effective", 0, 1, 1);
        ends.asks(1, "effective", 0, MAX, MAX);
        ends.asks(1, "effective", 0, 5, 6);
        ends.asks(0, "effective", 0, 6, MAX - 1);
    }

    private static void firstChangeWithoutEdit() {
        check.sentence("0 when there is none, or no edit.");
        for (int kind = 0; kind <= 5; kind++) {
            Scene scene = Scene.opened(check, kind);
            scene.asks(0, "firstChange", 0, 1, MAX);
            scene.asks(0, "firstChange", 0, 1, 1);
            scene.asks(0, "firstChange", 0, MAX, MAX);
            scene.asks(0, "firstChange", 0, MAX, 1);
            scene.puts(0, 10, 1, 1, 0).puts(0, 20, 1, 2, 0);
            scene.asks(20, "firstChange", 0, 1, MAX);
            scene.asks(0, "firstChange", 0, 1, 19);
            scene.asks(0, "firstChange", 0, 21, MAX);
        }
    }

    private static void firstChangeOfWhatDidNothing() {
        check.sentence("(a put, strike or shift that did something");
        Scene none = Scene.opened(check, 0).does(0, "strike", 0, 5);
        none.asks(0, "firstChange", 0, 1, MAX);
        // Each of these does nothing: what is compared behind it holds the changes of the put at 20.
        Scene scene = Scene.opened(check, 0).puts(0, 30, 2, 0, 0).puts(0, 10, 1, 1, 0).puts(0, 20, 1, 2, 0);
        scene.asks(0, "strike", 0, 15);
        scene.refuses(Calls.STATE, "put", 0, 10, 1, 1, 0);
        scene.refuses(Calls.UNSUPPORTED, "put", 0, 15, 3, 1, 0);
        scene.refuses(Calls.STATE, "shift", 0, 10, 20);
        scene.refuses(Calls.STATE, "shift", 0, 10, 10);
        scene.refuses(Calls.NONE, "shift", 0, 15, 16);
        scene.does(0, "strike", 0, 15);
        scene.asks(20, "firstChange", 0, 1, MAX);
        scene.asks(0, "firstChange", 0, 21, MAX);
    }

    private static void firstChangeSinceItWasOpened() {
        check.sentence("since it was opened)");
        for (int kind = 0; kind <= 5; kind++) {
            Scene scene = filled(0, 32).does(32, "close", 0).does(0, "open", 0, kind);
            scene.asks(0, "firstChange", 0, 1, MAX);
            scene.puts(0, 15, 1, 0, 0);
            scene.asks(15, "firstChange", 0, 1, MAX);
            scene.asks(0, "firstChange", 0, 16, MAX);
        }
        Scene struck = filled(0, 1).does(1, "strike", 0, 10).does(0, "close", 0).does(0, "open", 0, 0);
        struck.asks(0, "firstChange", 0, 1, MAX);
    }

    private static void firstChangeOfTheLatestEdit() {
        check.sentence("the line before the latest edit");
        Scene scene = Scene.opened(check, 0);
        scene.puts(0, 10, 1, 1, 0).puts(0, 20, 1, 2, 0);
        scene.asks(0, "firstChange", 0, 1, 19);
        scene.does(1, "strike", 0, 20).puts(0, 20, 1, 2, 0);
        scene.asks(20, "firstChange", 0, 1, MAX);
        scene.does(0, "shift", 0, 20, 30).does(0, "shift", 0, 30, 20);
        scene.asks(20, "firstChange", 0, 1, MAX);
        scene.asks(30, "firstChange", 0, 21, MAX);
        scene.asks(0, "firstChange", 0, 31, MAX);
        // Another collection's edit is none of this one.
        scene.does(0, "open", 1, 0).puts(1, 5, 1, 1, 0);
        scene.asks(20, "firstChange", 0, 1, MAX);
        scene.asks(5, "firstChange", 1, 1, MAX);
    }

    private static void firstChangeWhereOneHasNone() {
        check.sentence("have not both an operation or both none");
        for (int time : new int[] {1, MAX}) {
            Scene scene = Scene.opened(check, 5).puts(0, time, 1, 3, 3);
            scene.asks(time, "firstChange", 0, 1, MAX);
            scene.asks(time, "firstChange", 0, time, time);
            scene.does(1, "strike", 0, time);
            scene.asks(time, "firstChange", 0, 1, MAX);
            scene.asks(time, "firstChange", 0, time, time);
        }
        for (int kind = 0; kind <= 5; kind++) {
            Scene full = filled(kind, 31).puts(0, MAX, 1, 0, 0);
            full.asks(MAX, "firstChange", 0, 1, MAX);
            full.does(1, "strike", 0, MAX);
            full.asks(MAX, "firstChange", 0, 1, MAX);
            full.puts(0, 1, 1, 0, 0);
            full.asks(1, "firstChange", 0, 1, MAX);
            full.does(0, "shift", 0, 1, MAX);
            full.asks(1, "firstChange", 0, 1, MAX);
            full.asks(MAX, "firstChange", 0, 320, MAX);
        }
    }

    private static void firstChangeOfAnotherResult() {
        check.sentence("or one with another result");
        Scene queue = Scene.opened(check, 0).puts(0, 20, 1, 5, 0).puts(0, 30, 2, 0, 0).puts(0, 10, 1, 6, 0);
        queue.asks(30, "firstChange", 0, 11, MAX);
        Scene same = Scene.opened(check, 0).puts(0, 20, 1, 5, 0).puts(0, 30, 2, 0, 0).puts(0, 10, 1, 5, 0);
        same.asks(0, "firstChange", 0, 11, MAX);
        Scene stack = Scene.opened(check, 1).puts(0, 20, 1, 5, 0).puts(0, 30, 2, 0, 0).puts(0, 10, 1, 6, 0);
        stack.asks(0, "firstChange", 0, 11, MAX);
        Scene table = Scene.opened(check, 2).puts(0, 20, 1, 5, 0).puts(0, 30, 2, 5, 0).puts(0, 10, 1, 5, 1);
        table.asks(20, "firstChange", 0, 11, MAX);
        table.asks(30, "firstChange", 0, 21, MAX);
        Scene heap = Scene.opened(check, 3).puts(0, 20, 1, 5, 0).puts(0, 30, 2, 0, 0).puts(0, 10, 1, 4, 0);
        heap.asks(30, "firstChange", 0, 11, MAX);
        Scene larger = Scene.opened(check, 3).puts(0, 20, 1, 5, 0).puts(0, 30, 2, 0, 0).puts(0, 10, 1, 6, 0);
        larger.asks(0, "firstChange", 0, 11, MAX);
        Scene register = Scene.opened(check, 4).puts(0, 20, 1, 5, 0).puts(0, 30, 1, -7, 0).puts(0, 40, 1, 1, 0);
        register.puts(0, 10, 1, 2, 0);
        register.asks(20, "firstChange", 0, 11, MAX);
        register.asks(0, "firstChange", 0, 21, MAX);
        register.does(1, "strike", 0, 10).puts(0, 10, 1, 3, 0);
        register.asks(30, "firstChange", 0, 21, MAX);
        register.asks(40, "firstChange", 0, 31, MAX);
    }

    private static void firstChangeOfAnEffectInOne() {
        check.sentence("or one that has an effect in just one of them");
        // The results are 0 in both lines.
        for (int kind : new int[] {0, 1, 3}) {
            Scene scene = Scene.opened(check, kind).puts(0, 30, 2, 0, 0).puts(0, 20, 1, 0, 0);
            scene.asks(30, "firstChange", 0, 21, MAX);
            scene.does(1, "strike", 0, 20);
            scene.asks(30, "firstChange", 0, 21, MAX);
            scene.puts(0, 40, 1, 0, 0).does(0, "shift", 0, 40, 20);
            scene.asks(30, "firstChange", 0, 21, MAX);
            scene.asks(40, "firstChange", 0, 31, MAX);
        }
        Scene table = Scene.opened(check, 2).puts(0, 30, 1, 5, 9).puts(0, 40, 2, 5, 0).puts(0, 20, 1, 5, 9);
        table.asks(30, "firstChange", 0, 21, MAX);
        table.asks(0, "firstChange", 0, 31, MAX);
        Scene taken = Scene.opened(check, 2).puts(0, 30, 2, 5, 0).puts(0, 20, 1, 5, 0);
        taken.asks(30, "firstChange", 0, 21, MAX);
        Scene sets = Scene.opened(check, 5).puts(0, 30, 1, 1, 2).puts(0, 40, 1, 2, 3).puts(0, 20, 1, 2, 1);
        sets.asks(30, "firstChange", 0, 21, MAX);
        sets.asks(0, "firstChange", 0, 31, MAX);
    }

    private static void firstChangeFromOneToAnother() {
        check.sentence("The least moment from one to another one");
        Scene scene = Scene.opened(check, 4);
        for (int i = 2; i <= 32; i++) {
            scene.puts(0, 10 * i, 1, 1, 0);
        }
        scene.puts(0, 10, 1, 1, 0);
        for (int i = 1; i <= 32; i++) {
            scene.asks(10 * i, "firstChange", 0, 10 * i - 9, MAX);
            scene.asks(10 * i, "firstChange", 0, 10 * i, 10 * i);
            scene.asks(0, "firstChange", 0, 10 * i - 9, 10 * i - 1);
        }
        scene.asks(0, "firstChange", 0, 321, MAX);
        scene.asks(0, "firstChange", 0, 320, 10);
        scene.asks(0, "firstChange", 0, 20, 19);
        scene.asks(0, "firstChange", 0, MAX, 1);
        scene.refuses(Calls.ARGUMENT, "firstChange", 0, MAX + 1, 1);
        scene.refuses(Calls.ARGUMENT, "firstChange", 0, 1, 0);
    }

    private static void operationsOfALine() {
        check.sentence("How many operations a line has.");
        for (int kind = 0; kind <= 5; kind++) {
            for (int operations : new int[] {0, 1, 31, 32}) {
                filled(kind, operations).asks(operations, "operations", 0);
            }
        }
        Scene scene = filled(0, 32).does(0, "shift", 0, 10, 5);
        scene.asks(32, "operations", 0);
        scene.does(1, "strike", 0, 5);
        scene.asks(31, "operations", 0);
    }

    private static void operationRefusesNoNumber() {
        check.sentence("Illegal argument: also if f is none of these");
        Scene scene = Scene.opened(check, 2).puts(0, MAX, 1, 7, 8);
        for (int f : new int[] {-1, 4, 5, MAX, Integer.MIN_VALUE, Integer.MAX_VALUE}) {
            scene.refuses(Calls.ARGUMENT, "operation", 0, 0, f);
        }
        int[] want = {MAX, 1, 7, 8};
        for (int f = 0; f <= 3; f++) {
            scene.asks(want[f], "operation", 0, 0, f);
        }
    }

    private static void operationRefusesNoPlace() {
        check.sentence("index out of bounds: there is none.");
        for (int operations : new int[] {0, 1, 31, 32}) {
            Scene scene = filled(0, operations);
            for (int f = 0; f <= 3; f++) {
                scene.refuses(Calls.INDEX, "operation", 0, operations, f);
                scene.refuses(Calls.INDEX, "operation", 0, -1, f);
                scene.refuses(Calls.INDEX, "operation", 0, Integer.MIN_VALUE, f);
                scene.refuses(Calls.INDEX, "operation", 0, Integer.MAX_VALUE, f);
            }
            if (operations > 0) {
                scene.asks(10, "operation", 0, 0, 0);
                scene.asks(10 * operations, "operation", 0, operations - 1, 0);
                scene.asks(100 + operations, "operation", 0, operations - 1, 2);
            }
        }
        Scene struck = filled(0, 32).does(1, "strike", 0, 10);
        struck.refuses(Calls.INDEX, "operation", 0, 31, 0);
        struck.asks(320, "operation", 0, 30, 0);
    }
}
