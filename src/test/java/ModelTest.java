import java.util.Arrays;

/** All promises: long runs of calls, right ones and wrong ones, each answer compared with the Model's. */
public final class ModelTest {
    private static final int RUNS = 1500;
    private static final int CALLS = 512;
    private static final int MAX = 1000000000;
    /** How often each call of Calls.NAMES comes; closing is rare, so that lines grow full. */
    private static final int[] WEIGHTS = {3, 1, 40, 6, 8, 10, 6, 8, 8, 6, 8, 8, 6, 6, 14, 2, 6};
    private static final int[] ODD_NUMBERS = {0, 1, -1, 2, 3, 4, 15, 16, 32, MAX, MAX + 1, -MAX, -MAX - 1,
        Integer.MIN_VALUE, Integer.MAX_VALUE};

    private static final Check check = new Check();
    private static long seed = 1;
    private static int moments;
    private static int oneIn;
    /** The kind of each collection, -1 for one that is not open: most calls are to be fitting ones. */
    private static final int[] kinds = new int[4];
    /** Moments that were used lately, so that many calls meet an operation even on a long line. */
    private static final int[] used = new int[24];

    public static void main(String[] args) {
        for (int run = 0; run < RUNS; run++) {
            moments = new int[] {6, 20, 45, 90, MAX}[run % 5];
            oneIn = run % 2 == 0 ? 12 : 200;
            compare(run);
        }
        check.end();
    }

    private static void compare(int run) {
        EditablePast x = new EditablePast();
        Model model = new Model();
        Arrays.fill(kinds, -1);
        Arrays.fill(used, 1);
        for (int i = 0; i < CALLS; i++) {
            String method = i < 4 ? "open" : Calls.NAMES[weighted()];
            int[] p = parameters(method);
            String want = Calls.answer(() -> model.call(method, p));
            String got = Calls.answer(x, method, p);
            check.due("run " + run + ", call " + i + ", " + method + Arrays.toString(p), want, got);
            if (!got.startsWith("java")) {
                follow(method, p);
            }
        }
    }

    private static void follow(String method, int[] p) {
        if (method.equals("open")) {
            kinds[p[0]] = p[1];
        } else if (method.equals("close")) {
            kinds[p[0]] = -1;
        } else if (method.equals("put")) {
            used[below(used.length)] = p[1];
        } else if (method.equals("shift")) {
            used[below(used.length)] = p[2];
        }
    }

    private static int[] parameters(String method) {
        int id = collection(method);
        int[] p;
        switch (method) {
            case "open": p = new int[] {id, below(6)}; break;
            case "close": case "operations": p = new int[] {id}; break;
            case "put": p = operation(id, kinds[id]); break;
            case "shift": case "effective": case "firstChange": p = new int[] {id, moment(), moment()}; break;
            case "at": p = new int[] {id, moment(), below(6)}; break;
            case "least": p = new int[] {id, moment(), below(8)}; break;
            case "together": p = new int[] {id, moment(), below(16), below(16)}; break;
            case "operation": p = new int[] {id, below(33), below(4)}; break;
            default: p = new int[] {id, moment()};
        }
        if (below(oneIn) == 0) {
            p[below(p.length)] = ODD_NUMBERS[below(ODD_NUMBERS.length)];
        }
        return p;
    }

    private static int collection(String method) {
        int id = below(4);
        for (int tries = 0; tries < 6 && !fits(method, kinds[id]); tries++) {
            id = below(4);
        }
        return id;
    }

    private static boolean fits(String method, int kind) {
        switch (method) {
            case "open": return kind == -1;
            case "front": return kind == 0 || kind == 1;
            case "size": return kind != -1 && kind != 4;
            case "at": return kind == 2;
            case "least": return kind == 3;
            case "sum": return kind == 4;
            case "together": return kind == 5;
            default: return kind != -1;
        }
    }

    private static int[] operation(int id, int kind) {
        int name = kind > 3 || below(5) < 3 ? 1 : 2;
        switch (kind) {
            case 2: return new int[] {id, moment(), name, below(6), name == 1 ? below(4) : 0};
            case 4: return new int[] {id, moment(), 1, below(3) == 0 ? MAX - below(9) : below(20) - 10, 0};
            case 5: return new int[] {id, moment(), 1, below(16), below(16)};
            default: return new int[] {id, moment(), name, name == 1 ? below(6) : 0, 0};
        }
    }

    private static int moment() {
        return below(2) == 0 ? used[below(used.length)] : 1 + below(moments);
    }

    private static int weighted() {
        int sum = 0;
        for (int weight : WEIGHTS) {
            sum += weight;
        }
        int left = below(sum);
        int method = 0;
        while (left >= WEIGHTS[method]) {
            left -= WEIGHTS[method];
            method++;
        }
        return method;
    }

    /** Numbers that look drawn, yet are the same in every run of the test. */
    private static int below(int bound) {
        seed = seed * 6364136223846793005L + 1442695040888963407L;
        return (int) ((seed >>> 33) % bound);
    }
}
