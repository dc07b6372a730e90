/** The boundary cases of 'Terms': each sentence that names one has a test of its own, for every call that it is about. */
public final class TermsBoundsTest {
    private static final int MAX = Calls.MAX;
    private static final int QUEUE = 0;
    private static final int STACK = 1;
    private static final int TABLE = 2;
    private static final int HEAP = 3;
    private static final int REGISTER = 4;
    private static final int SETS = 5;
    private static final int[] NO_MOMENTS = {0, -1, -MAX, Integer.MIN_VALUE, MAX + 1, Integer.MAX_VALUE};

    private static final Check check = new Check();

    public static void main(String[] args) {
        collectionsAreFour();
        collectionsAreOpenOrNot();
        momentsHaveTwoEnds();
        secondMomentsHaveTwoEnds();
        linesHaveTwoEnds();
        eachLineIsFullByItself();
        momentsAreTheirOperationsOwn();
        namesAreTwo();
        runsGoUpToTheMoment();
        runsGoInRisingOrder();
        runsBeginWithNothing();
        valuesHaveTwoEnds();
        putsHaveNoSecondNumber();
        takesHaveNoNumbers();
        takesGoByTheKind();
        takesFromNothing();
        keysThatHaveAValue();
        keysThatHaveNone();
        keysHaveTwoEnds();
        sumsBelowNothing();
        addendsHaveTwoEnds();
        registersAreNeverWithoutEffect();
        elementsHaveTwoEnds();
        elementsAreAloneAtFirst();
        elementsThatAreOne();
        resultsOfEachKind();
        resultsWithoutEffect();
        check.end();
    }

    /** A kind that the call is for. */
    private static int kindFor(String name) {
        switch (name) {
            case "at": return TABLE;
            case "least": return HEAP;
            case "sum": return REGISTER;
            case "together": return SETS;
            default: return QUEUE;
        }
    }

    /** What fits for a collection with the one operation 1 0 0, which all kinds have, at the moment. */
    private static int[] fitting(String name, int id, int time) {
        switch (name) {
            case "open": return new int[] {id, QUEUE};
            case "close": case "operations": return new int[] {id};
            case "operation": return new int[] {id, 0, 0};
            case "put": return new int[] {id, time, 1, 0, 0};
            case "shift": return new int[] {id, time, 500};
            case "at": case "least": return new int[] {id, time, 0};
            case "together": return new int[] {id, time, 0, 0};
            case "effective": case "firstChange": return new int[] {id, time, time};
            default: return new int[] {id, time};
        }
    }

    private static long answerOf(String name, int time) {
        switch (name) {
            case "close": case "strike": case "size": case "together": case "works": case "effective":
            case "operations": return 1;
            case "firstChange": case "operation": return time;
            default: return 0;
        }
    }

    private static Scene sceneFor(String name, int id, int time) {
        Scene scene = new Scene(check);
        if (!name.equals("open")) {
            scene.does(0, "open", id, kindFor(name));
        }
        if (!name.equals("open") && !name.equals("put")) {
            scene.puts(id, time, 1, 0, 0);
        }
        return scene;
    }

    private static boolean asksForAMoment(String name) {
        return !name.equals("open") && !name.equals("close") && !name.startsWith("operation");
    }

    private static void collectionsAreFour() {
        check.sentence("COLLECTIONS are 0 .. 3");
        for (String name : Calls.NAMES) {
            for (int id = 0; id <= 3; id++) {
                sceneFor(name, id, 7).does(answerOf(name, 7), name, fitting(name, id, 7));
            }
            for (int id : new int[] {-1, 4, Integer.MIN_VALUE, Integer.MAX_VALUE}) {
                sceneFor(name, 0, 7).refuses(Calls.ARGUMENT, name, fitting(name, id, 7));
                sceneFor(name, 3, 7).refuses(Calls.ARGUMENT, name, fitting(name, id, 7));
            }
        }
    }

    private static void collectionsAreOpenOrNot() {
        check.sentence("illegal state: the collection is not open");
        for (String name : Calls.NAMES) {
            for (int id = 0; id <= 3 && !name.equals("open"); id++) {
                new Scene(check).refuses(Calls.STATE, name, fitting(name, id, 7));
                sceneFor(name, (id + 1) % 4, 7).refuses(Calls.STATE, name, fitting(name, id, 7));
                Scene closed = sceneFor(name, id, 7);
                closed.does(name.equals("put") ? 0 : 1, "close", id);
                closed.refuses(Calls.STATE, name, fitting(name, id, 7));
            }
        }
    }

    private static void momentsHaveTwoEnds() {
        check.sentence("A MOMENT is 1 .. 1000000000");
        for (String name : Calls.NAMES) {
            if (asksForAMoment(name)) {
                for (int time : new int[] {1, 2, MAX - 1, MAX}) {
                    sceneFor(name, 0, time).does(answerOf(name, time), name, fitting(name, 0, time));
                }
                for (int time : NO_MOMENTS) {
                    sceneFor(name, 0, 1).refuses(Calls.ARGUMENT, name, fitting(name, 0, time));
                    sceneFor(name, 0, MAX).refuses(Calls.ARGUMENT, name, fitting(name, 0, time));
                }
            }
        }
    }

    private static void secondMomentsHaveTwoEnds() {
        check.sentence("a moment that is asked for is none");
        for (String name : new String[] {"shift", "effective", "firstChange"}) {
            for (int time : NO_MOMENTS) {
                sceneFor(name, 0, 1).refuses(Calls.ARGUMENT, name, 0, 1, time);
                sceneFor(name, 0, MAX).refuses(Calls.ARGUMENT, name, 0, MAX, time);
                sceneFor(name, 0, MAX).refuses(Calls.ARGUMENT, name, 0, time, MAX);
            }
        }
        for (int time : new int[] {1, MAX}) {
            Scene shifted = sceneFor("shift", 0, 7).does(0, "shift", 0, 7, time);
            shifted.asks(time, "operation", 0, 0, 0);
        }
        Scene ends = sceneFor("effective", 0, 1).puts(0, MAX, 1, 0, 0);
        ends.asks(2, "effective", 0, 1, MAX);
        ends.asks(1, "effective", 0, 2, MAX);
        ends.asks(1, "effective", 0, 1, MAX - 1);
        ends.asks(0, "effective", 0, 2, MAX - 1);
    }

    private static Scene filled(Scene scene, int id, int operations) {
        for (int i = 1; i <= operations; i++) {
            scene.puts(id, 10 * i, 1, i % 16, 0);
        }
        return scene;
    }

    private static void linesHaveTwoEnds() {
        check.sentence("An open one has a LINE of at most 32 OPERATIONS");
        for (int kind = QUEUE; kind <= SETS; kind++) {
            Scene scene = Scene.opened(check, kind);
            scene.asks(0, "operations", 0);
            filled(scene, 0, 31);
            scene.asks(31, "operations", 0);
            scene.puts(0, 320, 1, 0, 0);
            scene.asks(32, "operations", 0);
            for (int time : new int[] {1, 15, 319, 321, MAX}) {
                scene.refuses(Calls.STATE, "put", 0, time, 1, 0, 0);
            }
            scene.does(1, "strike", 0, 160);
            scene.puts(0, 165, 1, 0, 0);
            scene.refuses(Calls.STATE, "put", 0, 160, 1, 0, 0);
            scene.does(0, "shift", 0, 165, 1);
            scene.refuses(Calls.STATE, "put", 0, 165, 1, 0, 0);
            scene.does(32, "close", 0);
        }
    }

    private static void eachLineIsFullByItself() {
        check.sentence("An open one has a LINE of at most 32 OPERATIONS");
        Scene scene = new Scene(check);
        for (int id = 0; id < 4; id++) {
            filled(scene.does(0, "open", id, QUEUE), id, 32);
        }
        for (int id = 0; id < 4; id++) {
            scene.refuses(Calls.STATE, "put", id, 5, 1, 0, 0);
        }
        scene.does(1, "strike", 2, 320);
        scene.refuses(Calls.STATE, "put", 1, 5, 1, 0, 0);
        scene.puts(2, 5, 1, 9, 0);
        scene.asks(9, "front", 2, MAX);
    }

    private static void momentsAreTheirOperationsOwn() {
        check.sentence("each at a moment of its own");
        Scene scene = Scene.opened(check, STACK);
        scene.puts(0, 7, 1, 1, 0).puts(0, 8, 1, 2, 0).puts(0, 6, 1, 3, 0);
        for (int time = 6; time <= 8; time++) {
            scene.refuses(Calls.STATE, "put", 0, time, 1, 4, 0);
        }
        scene.does(0, "open", 1, STACK);
        scene.puts(1, 7, 1, 5, 0);
        scene.asks(2, "front", 0, MAX);
    }

    private static void namesAreTwo() {
        check.sentence("a NAME (1 or 2)");
        for (int kind = QUEUE; kind <= SETS; kind++) {
            Scene scene = Scene.opened(check, kind);
            for (int name : new int[] {0, 3, -1, -2, Integer.MIN_VALUE, Integer.MAX_VALUE}) {
                scene.refuses(Calls.UNSUPPORTED, "put", 0, 7, name, 0, 0);
            }
            if (kind == REGISTER || kind == SETS) {
                scene.refuses(Calls.UNSUPPORTED, "put", 0, 7, 2, 0, 0);
            } else {
                scene.puts(0, 8, 2, 0, 0);
            }
            scene.puts(0, 7, 1, 0, 0);
            scene.asks(1, "operation", 0, 0, 1);
        }
    }

    private static void runsGoUpToTheMoment() {
        check.sentence("all of them with moments up to it");
        for (int time : new int[] {1, 50, MAX}) {
            for (int kind : new int[] {QUEUE, STACK, TABLE, HEAP}) {
                Scene scene = Scene.opened(check, kind).puts(0, time, 1, 3, 0);
                scene.asks(1, "size", 0, time);
                if (time > 1) {
                    scene.asks(0, "size", 0, time - 1);
                }
            }
            Scene register = Scene.opened(check, REGISTER).puts(0, time, 1, 3, 0);
            register.asks(3, "sum", 0, time);
            Scene sets = Scene.opened(check, SETS).puts(0, time, 1, 3, 0);
            sets.asks(15, "size", 0, time);
            sets.asks(1, "together", 0, time, 3, 0);
            if (time > 1) {
                register.asks(0, "sum", 0, time - 1);
                sets.asks(16, "size", 0, time - 1);
                sets.asks(0, "together", 0, time - 1, 3, 0);
            }
        }
    }

    private static void runsGoInRisingOrder() {
        check.sentence("in rising order");
        Scene queue = Scene.opened(check, QUEUE);
        for (int i = 32; i >= 1; i--) {
            queue.puts(0, i, 1, 100 + i, 0);
        }
        queue.asks(101, "front", 0, MAX);
        Scene stack = Scene.opened(check, STACK);
        stack.puts(0, MAX, 1, 1, 0).puts(0, 1, 1, 2, 0).puts(0, 2, 2, 0, 0);
        stack.asks(2, "result", 0, 2);
        stack.asks(1, "front", 0, MAX);
    }

    private static void runsBeginWithNothing() {
        check.sentence("beginning with nothing");
        for (int kind : new int[] {QUEUE, STACK, TABLE, HEAP}) {
            Scene scene = Scene.opened(check, kind);
            scene.asks(0, "size", 0, 1);
            scene.asks(0, "size", 0, MAX);
            // The other collection's values are asked for just before: they must not be left over.
            scene.does(0, "open", 1, kind).puts(1, 1, 1, 5, 0).does(1, "size", 1, MAX);
            scene.asks(0, "size", 0, MAX);
        }
        Scene register = Scene.opened(check, REGISTER);
        register.asks(0, "sum", 0, MAX);
        register.does(0, "open", 1, REGISTER).puts(1, 1, 1, 5, 0).does(5, "sum", 1, MAX);
        register.asks(0, "sum", 0, MAX);
        Scene sets = Scene.opened(check, SETS);
        sets.does(0, "open", 1, SETS).puts(1, 1, 1, 5, 6).does(1, "together", 1, MAX, 5, 6);
        sets.asks(0, "together", 0, MAX, 5, 6);
        sets.asks(16, "size", 0, MAX);
    }

    private static void accepts(int kind, int name, int a, int b) {
        Scene scene = Scene.opened(check, kind).puts(0, 7, name, a, b);
        scene.asks(a, "operation", 0, 0, 2);
        scene.asks(b, "operation", 0, 0, 3);
    }

    private static void rejects(int kind, int name, int a, int b) {
        Scene.opened(check, kind).refuses(Calls.UNSUPPORTED, "put", 0, 7, name, a, b);
        Scene.opened(check, kind).puts(0, 6, 1, 1, 0).refuses(Calls.UNSUPPORTED, "put", 0, 7, name, a, b);
    }

    private static final int[] NO_VALUES = {-1, -MAX, Integer.MIN_VALUE, MAX + 1, Integer.MAX_VALUE};
    private static final int[] NOT_ZERO = {-1, 1, MAX, Integer.MIN_VALUE, Integer.MAX_VALUE};

    private static void valuesHaveTwoEnds() {
        check.sentence("Values and keys are 0 .. 1000000000");
        for (int kind : new int[] {QUEUE, STACK, HEAP}) {
            for (int value : new int[] {0, 1, MAX - 1, MAX}) {
                accepts(kind, 1, value, 0);
                Scene taken = Scene.opened(check, kind).puts(0, 7, 1, value, 0).puts(0, 8, 2, 0, 0);
                taken.asks(value, "result", 0, 8);
                taken.asks(value, kind == HEAP ? "least" : "front", 0, 7, 0);
            }
            for (int value : NO_VALUES) {
                rejects(kind, 1, value, 0);
            }
        }
        for (int value : new int[] {0, 1, MAX - 1, MAX}) {
            accepts(TABLE, 1, 5, value);
            Scene.opened(check, TABLE).puts(0, 7, 1, 5, value).asks(value, "at", 0, 7, 5);
        }
        for (int value : NO_VALUES) {
            rejects(TABLE, 1, 5, value);
        }
    }

    private static void putsHaveNoSecondNumber() {
        check.sentence("(b 0)");
        for (int kind : new int[] {QUEUE, STACK, HEAP, REGISTER}) {
            for (int b : NOT_ZERO) {
                rejects(kind, 1, 5, b);
            }
        }
        for (int b : NOT_ZERO) {
            rejects(TABLE, 2, 5, b);
        }
        accepts(TABLE, 2, 5, 0);
    }

    private static void takesHaveNoNumbers() {
        check.sentence("(a, b 0)");
        for (int kind : new int[] {QUEUE, STACK, HEAP}) {
            accepts(kind, 2, 0, 0);
            for (int number : NOT_ZERO) {
                rejects(kind, 2, number, 0);
                rejects(kind, 2, 0, number);
                rejects(kind, 2, number, number);
            }
        }
    }

    private static void takesGoByTheKind() {
        check.sentence("what was put in first, or last, of what is in, or the least");
        int[] values = {6, 2, 9, 2, 6, 0, 9, MAX, 0, 5, 3, 3, 8, 1, 7, 4};
        int[] sorted = {0, 0, 1, 2, 2, 3, 3, 4, 5, 6, 6, 7, 8, 9, 9, MAX};
        for (int kind : new int[] {QUEUE, STACK, HEAP}) {
            Scene scene = Scene.opened(check, kind);
            for (int i = 0; i < 16; i++) {
                scene.puts(0, 10 + i, 1, values[i], 0).puts(0, 50 + i, 2, 0, 0);
            }
            for (int i = 0; i < 16; i++) {
                int want = kind == QUEUE ? values[i] : kind == STACK ? values[15 - i] : sorted[i];
                scene.asks(want, "result", 0, 50 + i);
            }
            scene.asks(0, "size", 0, 65);
        }
        // Two stay in while sixteen go through: places that were left are used again.
        Scene queue = Scene.opened(check, QUEUE).puts(0, 1, 1, 100, 0).puts(0, 2, 1, 101, 0);
        for (int i = 0; i < 15; i++) {
            queue.puts(0, 10 + 2 * i, 1, 102 + i, 0).puts(0, 11 + 2 * i, 2, 0, 0);
        }
        for (int i = 0; i < 15; i++) {
            queue.asks(100 + i, "result", 0, 11 + 2 * i);
            queue.asks(101 + i, "front", 0, 11 + 2 * i);
            queue.asks(2, "size", 0, 11 + 2 * i);
        }
    }

    private static void outcome(Scene scene, int time, long result, int works) {
        scene.asks(result, "result", 0, time);
        scene.asks(works, "works", 0, time);
    }

    private static void takesFromNothing() {
        check.sentence("without effect when nothing is in");
        for (int kind : new int[] {QUEUE, STACK, HEAP}) {
            Scene scene = Scene.opened(check, kind);
            scene.puts(0, 10, 2, 0, 0).puts(0, 20, 1, 5, 0).puts(0, 30, 2, 0, 0).puts(0, 40, 2, 0, 0);
            scene.puts(0, 50, 1, 0, 0).puts(0, 60, 2, 0, 0).puts(0, 70, 2, 0, 0);
            outcome(scene, 10, 0, 0);
            scene.asks(0, "size", 0, 10);
            scene.asks(1, "size", 0, 20);
            outcome(scene, 30, 5, 1);
            outcome(scene, 40, 0, 0);
            scene.asks(1, "size", 0, 50);
            outcome(scene, 60, 0, 1);
            outcome(scene, 70, 0, 0);
            Scene takes = Scene.opened(check, kind);
            for (int time = 1; time <= 32; time++) {
                takes.puts(0, time, 2, 0, 0);
            }
            takes.asks(0, "effective", 0, 1, MAX);
            takes.asks(0, "size", 0, MAX);
        }
    }

    private static void keysThatHaveAValue() {
        check.sentence("without effect when it has one");
        Scene scene = Scene.opened(check, TABLE);
        scene.puts(0, 10, 1, 5, 8).puts(0, 20, 1, 5, 9).puts(0, 30, 1, 5, 8).puts(0, 40, 1, 6, 9);
        outcome(scene, 10, 0, 1);
        outcome(scene, 20, 0, 0);
        outcome(scene, 30, 0, 0);
        outcome(scene, 40, 0, 1);
        scene.asks(8, "at", 0, 30, 5);
        scene.asks(2, "size", 0, MAX);
        scene.puts(0, 15, 2, 5, 0);
        outcome(scene, 20, 0, 1);
        outcome(scene, 30, 0, 0);
        scene.asks(9, "at", 0, 30, 5);
        // A value of 0 is one, too.
        Scene zero = Scene.opened(check, TABLE).puts(0, 10, 1, 0, 0).puts(0, 20, 1, 0, 7);
        outcome(zero, 20, 0, 0);
        zero.asks(0, "at", 0, 20, 0);
    }

    private static void keysThatHaveNone() {
        check.sentence("without effect when it has none");
        Scene scene = Scene.opened(check, TABLE);
        scene.puts(0, 10, 2, 5, 0).puts(0, 20, 1, 5, 8).puts(0, 30, 2, 6, 0).puts(0, 40, 2, 5, 0).puts(0, 50, 2, 5, 0);
        outcome(scene, 10, 0, 0);
        outcome(scene, 30, 0, 0);
        scene.asks(8, "at", 0, 30, 5);
        outcome(scene, 40, 8, 1);
        outcome(scene, 50, 0, 0);
        scene.asks(0, "size", 0, MAX);
        Scene zero = Scene.opened(check, TABLE).puts(0, 10, 1, 0, 0).puts(0, 20, 2, 0, 0).puts(0, 30, 2, 0, 0);
        outcome(zero, 20, 0, 1);
        outcome(zero, 30, 0, 0);
    }

    private static void keysHaveTwoEnds() {
        check.sentence("Values and keys are 0 .. 1000000000");
        for (int key : new int[] {0, 1, MAX - 1, MAX}) {
            accepts(TABLE, 1, key, 3);
            accepts(TABLE, 2, key, 0);
            Scene scene = Scene.opened(check, TABLE).puts(0, 7, 1, key, 3).puts(0, 8, 2, key, 0);
            scene.asks(3, "at", 0, 7, key);
            scene.asks(3, "result", 0, 8);
            scene.refuses(Calls.NONE, "at", 0, 8, key);
        }
        for (int key : NO_VALUES) {
            rejects(TABLE, 1, key, 3);
            rejects(TABLE, 2, key, 0);
        }
        Scene full = Scene.opened(check, TABLE);
        for (int i = 0; i < 32; i++) {
            full.puts(0, 10 + i, 1, MAX - i, i);
        }
        for (int i = 0; i < 32; i++) {
            full.asks(i, "at", 0, MAX, MAX - i);
        }
        full.asks(32, "size", 0, MAX);
    }

    private static void sumsBelowNothing() {
        check.sentence("becomes 0 when it would be below");
        Scene scene = Scene.opened(check, REGISTER);
        scene.asks(0, "sum", 0, 1);
        scene.puts(0, 10, 1, -1, 0).puts(0, 20, 1, 5, 0).puts(0, 30, 1, -5, 0).puts(0, 40, 1, 5, 0);
        scene.puts(0, 50, 1, -4, 0).puts(0, 60, 1, -2, 0).puts(0, 70, 1, 3, 0);
        int[] sums = {0, 5, 0, 5, 1, 0, 3};
        for (int i = 0; i < sums.length; i++) {
            scene.asks(sums[i], "sum", 0, 10 * (i + 1));
            outcome(scene, 10 * (i + 1), sums[i], 1);
        }
        Scene ends = Scene.opened(check, REGISTER);
        ends.puts(0, 10, 1, -MAX, 0).puts(0, 20, 1, -MAX, 0).puts(0, 30, 1, -MAX, 0).puts(0, 40, 1, MAX, 0);
        ends.asks(0, "sum", 0, 30);
        ends.asks(MAX, "sum", 0, 40);
        ends.puts(0, 50, 1, -MAX, 0);
        ends.asks(0, "sum", 0, 50);
        // The sums on the way are beyond what an int holds, and come down again.
        Scene high = Scene.opened(check, REGISTER);
        for (int i = 1; i <= 16; i++) {
            high.puts(0, i, 1, MAX, 0).puts(0, 100 + i, 1, -MAX, 0);
        }
        for (int i = 1; i <= 16; i++) {
            high.asks(1000000000L * i, "sum", 0, i);
            high.asks(1000000000L * (16 - i), "result", 0, 100 + i);
        }
    }

    private static void addendsHaveTwoEnds() {
        check.sentence("a of a REGISTER -1000000000 .. 1000000000");
        for (int a : new int[] {-MAX, -MAX + 1, -1, 0, 1, MAX - 1, MAX}) {
            accepts(REGISTER, 1, a, 0);
        }
        for (int a : new int[] {-MAX - 1, MAX + 1, Integer.MIN_VALUE, Integer.MAX_VALUE}) {
            rejects(REGISTER, 1, a, 0);
        }
        Scene all = Scene.opened(check, REGISTER);
        for (int i = 1; i <= 32; i++) {
            all.puts(0, i, 1, MAX, 0);
        }
        all.asks(32000000000L, "sum", 0, MAX);
        all.asks(32000000000L, "result", 0, 32);
    }

    private static void registersAreNeverWithoutEffect() {
        check.sentence("never without effect");
        Scene scene = Scene.opened(check, REGISTER);
        scene.puts(0, 10, 1, 0, 0).puts(0, 20, 1, -MAX, 0).puts(0, 30, 1, 4, 0).puts(0, 40, 1, 0, 0);
        outcome(scene, 10, 0, 1);
        outcome(scene, 20, 0, 1);
        outcome(scene, 40, 4, 1);
        scene.asks(4, "effective", 0, 1, MAX);
    }

    private static void elementsHaveTwoEnds() {
        check.sentence("the elements 0 .. 15");
        for (int element : new int[] {0, 1, 14, 15}) {
            accepts(SETS, 1, element, 7);
            accepts(SETS, 1, 7, element);
            Scene scene = Scene.opened(check, SETS).puts(0, 5, 1, element, 7);
            scene.asks(1, "together", 0, 5, element, 7);
            scene.asks(1, "together", 0, 5, 7, element);
        }
        for (int element : new int[] {-1, 16, MAX, Integer.MIN_VALUE, Integer.MAX_VALUE}) {
            rejects(SETS, 1, element, 7);
            rejects(SETS, 1, 7, element);
            rejects(SETS, 1, element, element);
        }
    }

    private static void elementsAreAloneAtFirst() {
        check.sentence("each alone at first");
        Scene scene = Scene.opened(check, SETS);
        scene.asks(16, "size", 0, 1);
        scene.asks(16, "size", 0, MAX);
        for (int a = 0; a <= 15; a++) {
            for (int b = 0; b <= 15; b++) {
                scene.asks(a == b ? 1 : 0, "together", 0, MAX, a, b);
            }
        }
    }

    private static void elementsThatAreOne() {
        check.sentence("without effect when they are one");
        Scene scene = Scene.opened(check, SETS);
        scene.puts(0, 10, 1, 3, 3).puts(0, 20, 1, 3, 4).puts(0, 30, 1, 4, 3).puts(0, 40, 1, 3, 4);
        scene.puts(0, 50, 1, 4, 5).puts(0, 60, 1, 5, 3).puts(0, 70, 1, 5, 6);
        int[] works = {0, 1, 0, 0, 1, 0, 1};
        for (int i = 0; i < works.length; i++) {
            outcome(scene, 10 * (i + 1), 0, works[i]);
        }
        scene.asks(13, "size", 0, MAX);
        Scene all = Scene.opened(check, SETS);
        for (int i = 0; i < 15; i++) {
            all.puts(0, 10 + i, 1, i, 15);
            all.asks(15 - i, "size", 0, MAX);
        }
        for (int i = 0; i < 15; i++) {
            all.puts(0, 100 + i, 1, i, i + 1);
            outcome(all, 100 + i, 0, 0);
        }
        all.asks(1, "size", 0, MAX);
        all.asks(1, "together", 0, MAX, 0, 15);
        all.asks(0, "together", 0, 23, 0, 14);
    }

    private static void resultsOfEachKind() {
        check.sentence("what it took (name 2), in a REGISTER the sum then, else 0");
        for (int kind : new int[] {QUEUE, STACK, HEAP}) {
            Scene scene = Scene.opened(check, kind).puts(0, 10, 1, MAX, 0).puts(0, 20, 2, 0, 0);
            outcome(scene, 10, 0, 1);
            outcome(scene, 20, MAX, 1);
        }
        Scene table = Scene.opened(check, TABLE).puts(0, 10, 1, MAX, 9).puts(0, 20, 2, MAX, 0);
        outcome(table, 10, 0, 1);
        outcome(table, 20, 9, 1);
        Scene register = Scene.opened(check, REGISTER).puts(0, 10, 1, 9, 0).puts(0, 20, 1, -2, 0);
        outcome(register, 10, 9, 1);
        outcome(register, 20, 7, 1);
        Scene sets = Scene.opened(check, SETS).puts(0, 10, 1, 14, 15);
        outcome(sets, 10, 0, 1);
    }

    private static void resultsWithoutEffect() {
        check.sentence("and 0 when it is without effect");
        // Each stands right behind one whose result is not 0, which must not be told again.
        for (int kind : new int[] {QUEUE, STACK, HEAP}) {
            Scene scene = Scene.opened(check, kind).puts(0, 10, 1, 9, 0).puts(0, 20, 2, 0, 0).puts(0, 30, 2, 0, 0);
            outcome(scene, 20, 9, 1);
            outcome(scene, 30, 0, 0);
        }
        Scene table = Scene.opened(check, TABLE).puts(0, 10, 1, 4, 9).puts(0, 15, 1, 5, 8).puts(0, 20, 2, 4, 0);
        table.puts(0, 30, 2, 4, 0).puts(0, 40, 2, 5, 0).puts(0, 50, 1, 6, 7).puts(0, 60, 1, 6, 8);
        outcome(table, 20, 9, 1);
        outcome(table, 30, 0, 0);
        outcome(table, 40, 8, 1);
        outcome(table, 50, 0, 1);
        outcome(table, 60, 0, 0);
    }
}
