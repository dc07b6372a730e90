/** The calls of the face by their names, so that a test can go through them all and write their answers down. */
final class Calls {
    static final int MAX = 1000000000;
    static final String ARGUMENT = "java.lang.IllegalArgumentException";
    static final String STATE = "java.lang.IllegalStateException";
    static final String UNSUPPORTED = "java.lang.UnsupportedOperationException";
    static final String INDEX = "java.lang.IndexOutOfBoundsException";
    static final String NONE = "java.util.NoSuchElementException";

    static final String[] NAMES = {
        "open", "close", "put", "strike", "shift", "front", "size", "at", "least", "sum", "together",
        "result", "works", "effective", "firstChange", "operations", "operation"
    };

    interface Call {
        long answer();
    }

    private Calls() {
    }

    /** The answer, or the name of the exception. */
    static String answer(Call call) {
        try {
            return String.valueOf(call.answer());
        } catch (RuntimeException e) {
            return e.getClass().getName();
        }
    }

    static String answer(EditablePast x, String name, int... p) {
        return answer(() -> call(x, name, p));
    }

    /** A boolean answers 1 or 0, a void 0. */
    static long call(EditablePast x, String name, int... p) {
        switch (name) {
            case "open": x.open(p[0], p[1]); return 0;
            case "close": return x.close(p[0]);
            case "put": x.put(p[0], p[1], p[2], p[3], p[4]); return 0;
            case "strike": return x.strike(p[0], p[1]) ? 1 : 0;
            case "shift": x.shift(p[0], p[1], p[2]); return 0;
            case "front": return x.front(p[0], p[1]);
            case "size": return x.size(p[0], p[1]);
            case "at": return x.at(p[0], p[1], p[2]);
            case "least": return x.least(p[0], p[1], p[2]);
            case "sum": return x.sum(p[0], p[1]);
            case "together": return x.together(p[0], p[1], p[2], p[3]) ? 1 : 0;
            case "result": return x.result(p[0], p[1]);
            case "works": return x.works(p[0], p[1]) ? 1 : 0;
            case "effective": return x.effective(p[0], p[1], p[2]);
            case "firstChange": return x.firstChange(p[0], p[1], p[2]);
            case "operations": return x.operations(p[0]);
            case "operation": return x.operation(p[0], p[1], p[2]);
            default: throw new AssertionError(name);
        }
    }
}
