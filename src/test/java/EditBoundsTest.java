import java.util.TreeMap;

/** The boundary cases of promises 1 to 6: each sentence that names one has a test of its own. */
public final class EditBoundsTest {
    private static final int MAX = Calls.MAX;
    private static final int[] FAR = {Integer.MIN_VALUE, -MAX, MAX, Integer.MAX_VALUE};

    private static final Check check = new Check();

    public static void main(String[] args) {
        nothingIsOpenAtFirst();
        openRefusesNoKind();
        openRefusesWhatIsOpen();
        closeTellsHowMany();
        closeRefusesWhatIsNotOpen();
        putRefusesATakenMoment();
        putRefusesAFullLine();
        putRefusesNoName();
        putRefusesNumbersThatDoNotFit();
        strikeOfNone();
        strikeOfOne();
        shiftRefusesATakenMoment();
        shiftRefusesItsOwnMoment();
        shiftRefusesNone();
        shiftAcrossTheLine();
        check.end();
    }

    private static void nothingIsOpenAtFirst() {
        check.sentence("No collection is open.");
        Scene scene = new Scene(check);
        for (int id = 0; id <= 3; id++) {
            scene.refuses(Calls.STATE, "operations", id);
            scene.refuses(Calls.STATE, "close", id);
        }
        for (int id = 0; id <= 3; id++) {
            scene.does(0, "open", id, id);
            scene.asks(0, "operations", id);
            for (int other = id + 1; other <= 3; other++) {
                scene.refuses(Calls.STATE, "operations", other);
            }
        }
    }

    private static void openRefusesNoKind() {
        check.sentence("Illegal argument: also if kind is not 0 .. 5");
        for (int kind = 0; kind <= 5; kind++) {
            Scene scene = Scene.opened(check, kind);
            if (kind == 4) {
                scene.asks(0, "sum", 0, 1);
            } else {
                scene.asks(kind == 5 ? 16 : 0, "size", 0, 1);
            }
        }
        Scene scene = new Scene(check);
        for (int kind : new int[] {-1, 6}) {
            scene.refuses(Calls.ARGUMENT, "open", 0, kind);
            scene.refuses(Calls.ARGUMENT, "open", 3, kind);
        }
        for (int kind : FAR) {
            scene.refuses(Calls.ARGUMENT, "open", 0, kind);
        }
        scene.does(0, "open", 0, 5);
    }

    private static void openRefusesWhatIsOpen() {
        check.sentence("illegal state: it is open.");
        for (int id = 0; id <= 3; id++) {
            Scene scene = new Scene(check).does(0, "open", id, 2);
            for (int kind = 0; kind <= 5; kind++) {
                scene.refuses(Calls.STATE, "open", id, kind);
            }
            scene.puts(id, 5, 1, 6, 7);
            for (int kind = 0; kind <= 5; kind++) {
                scene.refuses(Calls.STATE, "open", id, kind);
            }
            scene.does(1, "close", id).does(0, "open", id, 0);
            scene.refuses(Calls.STATE, "open", id, 0);
        }
    }

    private static Scene filled(int kind, int operations) {
        Scene scene = Scene.opened(check, kind);
        for (int i = 1; i <= operations; i++) {
            scene.puts(0, 10 * i, 1, i % 16, 0);
        }
        return scene;
    }

    private static void closeTellsHowMany() {
        check.sentence("Closes a collection: how many operations it had.");
        for (int kind = 0; kind <= 5; kind++) {
            for (int operations : new int[] {0, 1, 31, 32}) {
                Scene scene = filled(kind, operations).does(operations, "close", 0);
                scene.refuses(Calls.STATE, "operations", 0);
                for (int anew = 0; anew <= 5; anew++) {
                    Scene again = filled(kind, operations).does(operations, "close", 0).does(0, "open", 0, anew);
                    again.asks(0, "operations", 0);
                    again.asks(0, "firstChange", 0, 1, MAX);
                    again.asks(0, "effective", 0, 1, MAX);
                    again.puts(0, 320, 1, 0, 0).does(1, "close", 0);
                }
            }
        }
        Scene.opened(check, 0).puts(0, 5, 2, 0, 0).puts(0, 6, 2, 0, 0).does(1, "strike", 0, 5).does(1, "close", 0);
    }

    private static void closeRefusesWhatIsNotOpen() {
        check.sentence("illegal state: the collection is not open");
        for (int id = 0; id <= 3; id++) {
            Scene scene = new Scene(check);
            scene.refuses(Calls.STATE, "close", id);
            scene.does(0, "open", id, 3).does(0, "close", id);
            scene.refuses(Calls.STATE, "close", id);
        }
    }

    private static void putRefusesATakenMoment() {
        check.sentence("illegal state: also if the moment is taken");
        for (int kind = 0; kind <= 5; kind++) {
            for (int time : new int[] {1, 50, MAX}) {
                Scene scene = Scene.opened(check, kind).puts(0, time, 1, 3, 0);
                scene.refuses(Calls.STATE, "put", 0, time, 1, 3, 0);
                scene.refuses(Calls.STATE, "put", 0, time, 1, 4, 0);
                scene.refuses(Calls.STATE, "put", 0, time, 2, 0, 0);
                scene.does(0, "put", 0, time == MAX ? MAX - 1 : time + 1, 1, 4, 0);
                scene.does(1, "strike", 0, time).puts(0, time, 1, 4, 0);
            }
        }
        Scene shifted = Scene.opened(check, 0).puts(0, 5, 1, 1, 0).does(0, "shift", 0, 5, 6);
        shifted.refuses(Calls.STATE, "put", 0, 6, 1, 1, 0);
        shifted.puts(0, 5, 1, 1, 0);
    }

    private static void putRefusesAFullLine() {
        check.sentence("or the line has 32");
        for (int kind = 0; kind <= 5; kind++) {
            Scene scene = filled(kind, 31).puts(0, MAX, 1, 1, 0);
            for (int time : new int[] {1, 9, 11, 311, MAX - 1}) {
                scene.refuses(Calls.STATE, "put", 0, time, 1, 1, 0);
            }
            scene.does(1, "strike", 0, MAX).puts(0, 1, 1, 1, 0);
            scene.refuses(Calls.STATE, "put", 0, MAX, 1, 1, 0);
            scene.does(32, "close", 0).does(0, "open", 0, kind).puts(0, 1, 1, 1, 0);
        }
    }

    private static void putRefusesNoName() {
        check.sentence("unsupported operation: there is no such name for the kind");
        for (int kind = 0; kind <= 5; kind++) {
            Scene scene = filled(kind, 3);
            for (int name : new int[] {-1, 0, 3, 4, Integer.MIN_VALUE, Integer.MAX_VALUE}) {
                scene.refuses(Calls.UNSUPPORTED, "put", 0, 5, name, 0, 0);
                scene.refuses(Calls.UNSUPPORTED, "put", 0, 5, name, 1, 0);
            }
        }
        for (int kind : new int[] {4, 5}) {
            Scene scene = filled(kind, 3);
            scene.refuses(Calls.UNSUPPORTED, "put", 0, 5, 2, 0, 0);
            scene.refuses(Calls.UNSUPPORTED, "put", 0, 5, 2, 1, 0);
            scene.refuses(Calls.UNSUPPORTED, "put", 0, 5, 2, 1, 2);
        }
    }

    private static void putRefusesNumbersThatDoNotFit() {
        check.sentence("or a or b is not as it says");
        int[][] wrong = {
            {0, 1, -1, 0}, {0, 1, MAX + 1, 0}, {0, 1, 0, -1}, {0, 1, 0, 1}, {0, 2, 1, 0}, {0, 2, -1, 0}, {0, 2, 0, 1},
            {1, 1, -1, 0}, {1, 1, MAX + 1, 0}, {1, 1, 0, -1}, {1, 1, 0, 1}, {1, 2, 1, 0}, {1, 2, -1, 0}, {1, 2, 0, 1},
            {3, 1, -1, 0}, {3, 1, MAX + 1, 0}, {3, 1, 0, -1}, {3, 1, 0, 1}, {3, 2, 1, 0}, {3, 2, -1, 0}, {3, 2, 0, 1},
            {2, 1, -1, 0}, {2, 1, MAX + 1, 0}, {2, 1, 0, -1}, {2, 1, 0, MAX + 1}, {2, 2, -1, 0}, {2, 2, MAX + 1, 0},
            {2, 2, 0, -1}, {2, 2, 0, 1}, {4, 1, -MAX - 1, 0}, {4, 1, MAX + 1, 0}, {4, 1, 0, -1}, {4, 1, 0, 1},
            {5, 1, -1, 0}, {5, 1, 16, 0}, {5, 1, 0, -1}, {5, 1, 0, 16},
        };
        for (int[] w : wrong) {
            Scene scene = filled(w[0], 2);
            scene.refuses(Calls.UNSUPPORTED, "put", 0, 1, w[1], w[2], w[3]);
            scene.refuses(Calls.UNSUPPORTED, "put", 0, MAX, w[1], w[2], w[3]);
        }
        int[][] right = {
            {0, 1, 0, 0}, {0, 1, MAX, 0}, {0, 2, 0, 0}, {1, 1, 0, 0}, {1, 1, MAX, 0}, {1, 2, 0, 0},
            {3, 1, 0, 0}, {3, 1, MAX, 0}, {3, 2, 0, 0}, {2, 1, 0, 0}, {2, 1, MAX, MAX}, {2, 2, 0, 0}, {2, 2, MAX, 0},
            {4, 1, -MAX, 0}, {4, 1, MAX, 0}, {5, 1, 0, 0}, {5, 1, 15, 15}, {5, 1, 0, 15}, {5, 1, 15, 0},
        };
        for (int[] r : right) {
            Scene scene = filled(r[0], 2).puts(0, MAX, r[1], r[2], r[3]);
            for (int f = 1; f <= 3; f++) {
                scene.asks(r[f], "operation", 0, 2, f);
            }
        }
    }

    private static void strikeOfNone() {
        check.sentence("whether there was one");
        for (int kind = 0; kind <= 5; kind++) {
            Scene empty = Scene.opened(check, kind);
            empty.asks(0, "strike", 0, 1);
            empty.asks(0, "strike", 0, MAX);
            Scene scene = filled(kind, 32);
            for (int time : new int[] {1, 9, 11, 155, 319, 321, MAX}) {
                scene.asks(0, "strike", 0, time);
            }
            scene.does(1, "strike", 0, 160);
            scene.asks(0, "strike", 0, 160);
        }
        Scene other = Scene.opened(check, 0).puts(0, 5, 1, 1, 0).does(0, "open", 1, 0);
        other.asks(0, "strike", 1, 5);
    }

    private static void strikeOfOne() {
        check.sentence("Strikes the operation at a moment");
        for (int time : new int[] {1, MAX}) {
            Scene scene = Scene.opened(check, 0).puts(0, time, 1, 1, 0).does(1, "strike", 0, time);
            scene.asks(0, "operations", 0);
            scene.asks(time, "firstChange", 0, 1, MAX);
        }
        for (int struck : new int[] {1, 2, 16, 31, 32}) {
            Scene scene = filled(4, 32).does(1, "strike", 0, 10 * struck);
            scene.asks(31, "operations", 0);
            for (int i = 0; i < 31; i++) {
                scene.asks(10 * (i + 1 < struck ? i + 1 : i + 2), "operation", 0, i, 0);
            }
            scene.refuses(Calls.INDEX, "operation", 0, 31, 0);
        }
        Scene all = filled(1, 32);
        for (int i = 1; i <= 32; i++) {
            all.does(1, "strike", 0, 10 * i);
            all.asks(32 - i, "operations", 0);
        }
        all.asks(0, "size", 0, MAX);
    }

    private static void shiftRefusesATakenMoment() {
        check.sentence("illegal state: also if the other moment is taken");
        Scene scene = filled(0, 32);
        scene.refuses(Calls.STATE, "shift", 0, 10, 20);
        scene.refuses(Calls.STATE, "shift", 0, 10, 320);
        scene.refuses(Calls.STATE, "shift", 0, 320, 10);
        scene.refuses(Calls.STATE, "shift", 0, 15, 10);
        Scene ends = Scene.opened(check, 0).puts(0, 1, 1, 1, 0).puts(0, MAX, 1, 2, 0);
        ends.refuses(Calls.STATE, "shift", 0, 1, MAX);
        ends.refuses(Calls.STATE, "shift", 0, MAX, 1);
        ends.does(1, "strike", 0, MAX).does(0, "shift", 0, 1, MAX);
        ends.refuses(Calls.STATE, "shift", 0, 1, MAX);
        ends.does(0, "open", 1, 0).puts(1, 5, 1, 9, 0).does(0, "shift", 0, MAX, 5);
    }

    private static void shiftRefusesItsOwnMoment() {
        check.sentence("(by the same one, too)");
        for (int time : new int[] {1, 50, MAX}) {
            Scene scene = Scene.opened(check, 0).puts(0, time, 1, 1, 0);
            scene.refuses(Calls.STATE, "shift", 0, time, time);
        }
        Scene full = filled(0, 32);
        for (int i = 1; i <= 32; i++) {
            full.refuses(Calls.STATE, "shift", 0, 10 * i, 10 * i);
        }
    }

    private static void shiftRefusesNone() {
        check.sentence("no such element: there is none.");
        Scene empty = Scene.opened(check, 0);
        empty.refuses(Calls.NONE, "shift", 0, 1, MAX);
        empty.refuses(Calls.NONE, "shift", 0, MAX, 1);
        // A free moment is not taken, not by itself either.
        empty.refuses(Calls.NONE, "shift", 0, 5, 5);
        Scene scene = Scene.opened(check, 0).puts(0, 5, 1, 1, 0).does(0, "shift", 0, 5, 7);
        scene.refuses(Calls.NONE, "shift", 0, 5, 6);
        scene.refuses(Calls.NONE, "shift", 0, 5, 5);
        scene.refuses(Calls.NONE, "shift", 0, 6, 8);
        scene.refuses(Calls.NONE, "shift", 0, 8, 6);
        scene.does(1, "strike", 0, 7);
        scene.refuses(Calls.NONE, "shift", 0, 7, 5);
        Scene full = filled(0, 32);
        full.refuses(Calls.NONE, "shift", 0, 1, 5);
        full.refuses(Calls.NONE, "shift", 0, MAX, 325);
    }

    private static void shiftAcrossTheLine() {
        check.sentence("Moves the operation at a moment to another one.");
        for (int[] move : new int[][] {{1, MAX}, {MAX, 1}, {1, 2}, {2, 1}, {MAX - 1, MAX}, {MAX, MAX - 1}}) {
            Scene scene = Scene.opened(check, 2).puts(0, move[0], 1, 8, 9).does(0, "shift", 0, move[0], move[1]);
            int[] want = {move[1], 1, 8, 9};
            for (int f = 0; f <= 3; f++) {
                scene.asks(want[f], "operation", 0, 0, f);
            }
            scene.asks(1, "operations", 0);
            scene.asks(Math.min(move[0], move[1]), "firstChange", 0, 1, MAX);
            scene.asks(Math.max(move[0], move[1]), "firstChange", 0, Math.min(move[0], move[1]) + 1, MAX);
        }
        for (int from : new int[] {1, 2, 16, 31, 32}) {
            for (int to : new int[] {1, 15, 155, 165, 315, MAX}) {
                shiftOnAFullLine(10 * from, to);
            }
        }
    }

    private static void shiftOnAFullLine(int from, int to) {
        Scene scene = Scene.opened(check, 2);
        TreeMap<Integer, int[]> want = new TreeMap<>();
        for (int i = 1; i <= 32; i++) {
            scene.puts(0, 10 * i, 1, 100 + i, 200 + i);
            want.put(10 * i, new int[] {10 * i, 1, 100 + i, 200 + i});
        }
        scene.does(0, "shift", 0, from, to);
        int[] moved = want.remove(from);
        want.put(to, new int[] {to, moved[1], moved[2], moved[3]});
        int i = 0;
        for (int[] operation : want.values()) {
            for (int f = 0; f <= 3; f++) {
                scene.asks(operation[f], "operation", 0, i, f);
            }
            i++;
        }
        scene.refuses(Calls.INDEX, "operation", 0, 32, 0);
    }
}
