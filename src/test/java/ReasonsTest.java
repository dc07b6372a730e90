/**
 * "A call that throws changes nothing; of several reasons the exception named first is thrown." Every call is
 * made with every choice of its reasons at once, and all four collections are looked at behind it.
 */
public final class ReasonsTest {
    private static final int MAX = Calls.MAX;
    /** In the scene collection 0 is of the kind, 1 of another one, 2 is not open and 3 is of the kind and full. */
    private static final int[] IDS = {-1, 0, 1, 2, 3, 4};
    /** The moments 10 and 20 are taken in all that are open. */
    private static final int[] TIMES = {0, 10, 15, 20, MAX, MAX + 1};

    private static final Check check = new Check();

    public static void main(String[] args) {
        check.sentence("of several reasons the exception named first is thrown");
        reasonsOfOpen();
        reasonsOfClose();
        for (int kind = 0; kind <= 5; kind++) {
            reasonsOfPut(kind);
        }
        reasonsOfStrike();
        reasonsOfShift();
        reasonsOfFront();
        reasonsOfSize();
        reasonsOfAt();
        reasonsOfLeast();
        reasonsOfSum();
        reasonsOfTogether();
        reasonsOfResultAndWorks();
        reasonsOfEffectiveAndFirstChange();
        reasonsOfOperations();
        reasonsOfOperation();
        check.end();
    }

    private static Scene scene(int kind, int other) {
        Scene scene = new Scene(check);
        scene.does(0, "open", 0, kind).does(0, "open", 1, other).does(0, "open", 3, kind);
        scene.puts(0, 10, 1, 5, 0).puts(0, 20, 1, 5, 0).puts(1, 10, 1, 5, 0).puts(1, 20, 1, 5, 0);
        for (int i = 1; i <= 32; i++) {
            scene.puts(3, i < 32 ? 10 * i : 9, 1, 5, 0);
        }
        return scene;
    }

    private static boolean isCollection(int id) {
        return id >= 0 && id <= 3;
    }

    private static boolean isMoment(int time) {
        return time >= 1 && time <= MAX;
    }

    private static boolean isTaken(int time) {
        return time == 10 || time == 20;
    }

    /** The exception that is named first, or null when none is due: such calls have their own tests. */
    private static String first(boolean argument, boolean state, boolean further, String name) {
        if (argument) {
            return Calls.ARGUMENT;
        }
        if (state) {
            return Calls.STATE;
        }
        return further ? name : null;
    }

    private static void refuses(Scene scene, String want, String name, int... p) {
        if (want != null) {
            scene.refuses(want, name, p);
        }
    }

    private static void reasonsOfOpen() {
        Scene scene = scene(0, 1);
        for (int id : IDS) {
            for (int kind : new int[] {-1, 0, 5, 6}) {
                boolean argument = !isCollection(id) || kind < 0 || kind > 5;
                refuses(scene, first(argument, id != 2, false, null), "open", id, kind);
            }
        }
    }

    private static void reasonsOfClose() {
        Scene scene = scene(0, 1);
        for (int id : IDS) {
            refuses(scene, first(!isCollection(id), id == 2, false, null), "close", id);
        }
    }

    private static void reasonsOfPut(int kind) {
        Scene scene = scene(kind, kind);
        int largest = kind == 5 ? 15 : MAX;
        int least = kind == 4 ? -MAX : 0;
        int largestB = kind == 2 || kind == 5 ? largest : 0;
        for (int id : IDS) {
            for (int time : TIMES) {
                for (int[] operation : new int[][] {{1, 5, 0}, {0, 5, 0}, {3, 5, 0}, {1, least - 1, 0},
                        {1, largest + 1, 0}, {1, 5, -1}, {1, 5, largestB + 1}, {3, least - 1, -1}}) {
                    boolean state = id == 2 || id == 3 || isTaken(time);
                    boolean unsupported = operation[0] != 1 || operation[1] != 5 || operation[2] != 0;
                    refuses(scene, first(!isCollection(id) || !isMoment(time), state, unsupported, Calls.UNSUPPORTED),
                            "put", id, time, operation[0], operation[1], operation[2]);
                }
            }
        }
    }

    private static void reasonsOfStrike() {
        Scene scene = scene(1, 0);
        for (int id : IDS) {
            for (int time : TIMES) {
                refuses(scene, first(!isCollection(id) || !isMoment(time), id == 2, false, null), "strike", id, time);
            }
        }
    }

    private static void reasonsOfShift() {
        Scene scene = scene(0, 0);
        for (int id : new int[] {-1, 0, 1, 2, 4}) {
            for (int time : TIMES) {
                for (int to : TIMES) {
                    boolean argument = !isCollection(id) || !isMoment(time) || !isMoment(to);
                    refuses(scene, first(argument, id == 2 || isTaken(to), !isTaken(time), Calls.NONE),
                            "shift", id, time, to);
                }
            }
        }
        // The full line has its last one at 310.
        scene.refuses(Calls.STATE, "shift", 3, 310, 310);
        scene.refuses(Calls.STATE, "shift", 3, 9, 310);
        scene.refuses(Calls.STATE, "shift", 3, 311, 310);
        scene.refuses(Calls.NONE, "shift", 3, 311, 312);
    }

    private static void reasonsOfFront() {
        for (int kind : new int[] {0, 1}) {
            for (int other = 2; other <= 5; other++) {
                Scene scene = scene(kind, other);
                for (int id : IDS) {
                    for (int time : new int[] {0, 1, 8, 9, 10, MAX + 1}) {
                        boolean empty = time < (id == 3 ? 9 : 10);
                        refuses(scene, first(!isCollection(id) || !isMoment(time), id == 1 || id == 2, empty, Calls.NONE),
                                "front", id, time);
                    }
                }
            }
        }
    }

    private static void reasonsOfSize() {
        Scene scene = scene(2, 4);
        for (int id : IDS) {
            for (int time : TIMES) {
                refuses(scene, first(!isCollection(id) || !isMoment(time), id == 1 || id == 2, false, null),
                        "size", id, time);
            }
        }
    }

    private static void reasonsOfAt() {
        for (int other : new int[] {0, 1, 3, 4, 5}) {
            Scene scene = scene(2, other);
            for (int id : IDS) {
                for (int time : TIMES) {
                    for (int key : new int[] {-1, 4, 5, MAX, MAX + 1}) {
                        refuses(scene, first(!isCollection(id) || !isMoment(time), id == 1 || id == 2, key != 5, Calls.NONE),
                                "at", id, time, key);
                    }
                }
            }
        }
    }

    private static void reasonsOfLeast() {
        for (int other : new int[] {0, 1, 2, 4, 5}) {
            Scene scene = scene(3, other);
            for (int id : IDS) {
                for (int time : TIMES) {
                    for (int k : new int[] {-1, 32, Integer.MIN_VALUE, Integer.MAX_VALUE}) {
                        refuses(scene, first(!isCollection(id) || !isMoment(time), id == 1 || id == 2, true, Calls.INDEX),
                                "least", id, time, k);
                    }
                }
            }
        }
    }

    private static void reasonsOfSum() {
        for (int other : new int[] {0, 1, 2, 3, 5}) {
            Scene scene = scene(4, other);
            for (int id : IDS) {
                for (int time : TIMES) {
                    refuses(scene, first(!isCollection(id) || !isMoment(time), id == 1 || id == 2, false, null),
                            "sum", id, time);
                }
            }
        }
    }

    private static void reasonsOfTogether() {
        for (int other = 0; other <= 4; other++) {
            Scene scene = scene(5, other);
            for (int id : IDS) {
                for (int time : TIMES) {
                    for (int[] pair : new int[][] {{0, 15}, {-1, 0}, {16, 0}, {0, -1}, {0, 16}, {16, 16}, {-1, -1}}) {
                        boolean argument = !isCollection(id) || !isMoment(time) || pair[0] != 0 || pair[1] != 15;
                        refuses(scene, first(argument, id == 1 || id == 2, false, null),
                                "together", id, time, pair[0], pair[1]);
                    }
                }
            }
        }
    }

    private static void reasonsOfResultAndWorks() {
        for (int kind = 0; kind <= 5; kind++) {
            Scene scene = scene(kind, kind);
            for (int id : IDS) {
                for (int time : TIMES) {
                    String want = first(!isCollection(id) || !isMoment(time), id == 2, !isTaken(time), Calls.NONE);
                    refuses(scene, want, "result", id, time);
                    refuses(scene, want, "works", id, time);
                }
            }
        }
    }

    private static void reasonsOfEffectiveAndFirstChange() {
        Scene scene = scene(0, 4);
        for (int id : IDS) {
            for (int from : TIMES) {
                for (int to : TIMES) {
                    boolean argument = !isCollection(id) || !isMoment(from) || !isMoment(to);
                    refuses(scene, first(argument, id == 2, false, null), "effective", id, from, to);
                    refuses(scene, first(argument, id == 2, false, null), "firstChange", id, from, to);
                }
            }
        }
    }

    private static void reasonsOfOperations() {
        Scene scene = scene(0, 5);
        for (int id : IDS) {
            refuses(scene, first(!isCollection(id), id == 2, false, null), "operations", id);
        }
    }

    private static void reasonsOfOperation() {
        Scene scene = scene(2, 3);
        for (int id : IDS) {
            int operations = id == 3 ? 32 : 2;
            for (int i : new int[] {-1, 0, 1, 2, 31, 32, Integer.MIN_VALUE, Integer.MAX_VALUE}) {
                for (int f : new int[] {-1, 0, 3, 4, Integer.MIN_VALUE, Integer.MAX_VALUE}) {
                    boolean argument = !isCollection(id) || f < 0 || f > 3;
                    refuses(scene, first(argument, id == 2, i < 0 || i >= operations, Calls.INDEX),
                            "operation", id, i, f);
                }
            }
        }
    }
}
