/**
 * "An object is used for at most 512 calls after it has been made": up to the last of them every answer is due.
 * Each long run here makes just 512 calls, or one or two fewer.
 */
public final class LifeTest {
    private static final int MAX = Calls.MAX;
    private static final int LIFE = 512;

    private static final Check check = new Check();

    public static void main(String[] args) {
        check.sentence("An object is used for at most 512 calls after it has been made");
        opensAndCloses();
        putsAndStrikes();
        shiftsOnAFullLine();
        fourFullLinesAskedToTheEnd();
        questionsOnFullLinesOfEachKind();
        refusedCallsCountButDoNothing();
        manyObjects();
        check.end();
    }

    private static void due(EditablePast x, String want, String name, int... p) {
        check.due(name, want, Calls.answer(x, name, p));
    }

    private static void opensAndCloses() {
        EditablePast x = new EditablePast();
        for (int call = 0; call < LIFE; call += 2) {
            due(x, "0", "open", call / 2 % 4, call / 2 % 6);
            due(x, "0", "close", call / 2 % 4);
        }
    }

    private static void putsAndStrikes() {
        EditablePast x = new EditablePast();
        due(x, "0", "open", 0, 0);
        for (int call = 1; call < LIFE - 1; call += 2) {
            due(x, "0", "put", 0, call, 1, call, 0);
            due(x, "1", "strike", 0, call);
        }
        due(x, "509", "firstChange", 0, 1, MAX);
    }

    private static void shiftsOnAFullLine() {
        EditablePast x = new EditablePast();
        due(x, "0", "open", 3, 1);
        for (int i = 1; i <= 32; i++) {
            due(x, "0", "put", 3, i, 1, i, 0);
        }
        // The first one goes behind the last one, time and again.
        for (int call = 33; call < LIFE - 2; call++) {
            due(x, "0", "shift", 3, call - 32, call);
        }
        int shifts = LIFE - 2 - 33;
        due(x, String.valueOf((shifts - 1) % 32 + 1), "front", 3, MAX);
        due(x, String.valueOf(shifts), "firstChange", 3, 1, MAX);
    }

    private static void fourFullLinesAskedToTheEnd() {
        EditablePast x = new EditablePast();
        for (int id = 0; id < 4; id++) {
            due(x, "0", "open", id, 0);
            for (int i = 1; i <= 32; i++) {
                due(x, "0", "put", id, i, 1, 100 * id + i, 0);
            }
        }
        for (int call = 4 * 33; call < LIFE - 4; call++) {
            int id = call % 4;
            due(x, String.valueOf(call % 32 + 1), "size", id, call % 32 + 1);
        }
        for (int id = 0; id < 3; id++) {
            due(x, String.valueOf(100 * id + 1), "front", id, MAX);
        }
        due(x, Calls.STATE, "put", 3, 33, 1, 0, 0);
    }

    private static void questionsOnFullLinesOfEachKind() {
        String[] names = {"front", "front", "at", "least", "sum", "together"};
        String[] answers = {"1", "0", "0", "0", "240", "1"};
        for (int kind = 0; kind <= 5; kind++) {
            EditablePast x = new EditablePast();
            due(x, "0", "open", 0, kind);
            for (int i = 1; i <= 32; i++) {
                due(x, "0", "put", 0, i, 1, i % 16, 0);
            }
            for (int call = 33; call < LIFE; call++) {
                due(x, answers[kind], names[kind], 0, MAX, 0, 15);
            }
        }
    }

    private static void refusedCallsCountButDoNothing() {
        EditablePast x = new EditablePast();
        due(x, "0", "open", 0, 2);
        due(x, "0", "put", 0, 10, 1, 5, 6);
        for (int call = 2; call < LIFE - 4; call += 4) {
            due(x, Calls.STATE, "open", 0, 2);
            due(x, Calls.STATE, "put", 0, 10, 1, 5, 7);
            due(x, Calls.UNSUPPORTED, "put", 0, 11, 3, 5, 7);
            due(x, Calls.NONE, "shift", 0, 11, 12);
        }
        due(x, "6", "at", 0, MAX, 5);
        due(x, "10", "firstChange", 0, 1, MAX);
    }

    /** Objects share nothing: what one does is not seen in the next. */
    private static void manyObjects() {
        EditablePast[] all = new EditablePast[100];
        for (int i = 0; i < all.length; i++) {
            all[i] = new EditablePast();
            due(all[i], "0", "open", 0, 0);
            due(all[i], "0", "put", 0, 5, 1, i, 0);
        }
        for (int i = 0; i < all.length; i++) {
            due(all[i], String.valueOf(i), "front", 0, 5);
            due(all[i], "1", "operations", 0);
        }
    }
}
