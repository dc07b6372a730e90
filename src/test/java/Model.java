import java.util.ArrayDeque;
import java.util.ArrayList;
import java.util.Collections;
import java.util.Deque;
import java.util.HashMap;
import java.util.HashSet;
import java.util.List;
import java.util.Map;
import java.util.NoSuchElementException;
import java.util.Set;
import java.util.TreeMap;
import java.util.TreeSet;

/** A second version of the document, made of the library's collections and as unlike the first as can be. */
final class Model {
    /** What came of one operation. */
    record Outcome(long result, boolean effect) { }

    /** All that a run leaves behind. */
    private static final class Run {
        final Deque<Integer> values = new ArrayDeque<>();
        final List<Integer> heap = new ArrayList<>();
        final Map<Integer, Integer> table = new HashMap<>();
        final List<Set<Integer>> sets = new ArrayList<>();
        long sum;
        final TreeMap<Integer, Outcome> outcomes = new TreeMap<>();
    }

    private final Integer[] kinds = new Integer[4];
    private final List<TreeMap<Integer, int[]>> lines = new ArrayList<>();
    private final List<TreeMap<Integer, int[]>> before = new ArrayList<>();

    Model() {
        for (int id = 0; id < 4; id++) {
            lines.add(new TreeMap<>());
            before.add(new TreeMap<>());
        }
    }

    /** A boolean answers 1 or 0, a void 0. */
    long call(String method, int[] p) {
        argue(p[0] >= 0 && p[0] <= 3);
        int id = p[0];
        switch (method) {
            case "open":
                argue(p[1] >= 0 && p[1] <= 5);
                require(kinds[id] == null);
                kinds[id] = p[1];
                lines.set(id, new TreeMap<>());
                before.set(id, new TreeMap<>());
                return 0;
            case "close":
                isOpen(id);
                kinds[id] = null;
                return lines.get(id).size();
            case "operations":
                isOpen(id);
                return lines.get(id).size();
            case "operation":
                argue(p[2] >= 0 && p[2] <= 3);
                isOpen(id);
                return operation(id, p[1], p[2]);
            case "put":
            case "strike":
            case "shift":
                return edit(method, p);
            case "effective":
            case "firstChange":
                moment(p[1]);
                moment(p[2]);
                isOpen(id);
                return method.equals("effective") ? effective(id, p[1], p[2]) : firstChange(id, p[1], p[2]);
            default:
                return ask(method, p);
        }
    }

    private long edit(String method, int[] p) {
        int id = p[0];
        moment(p[1]);
        if (method.equals("shift")) {
            moment(p[2]);
        }
        isOpen(id);
        TreeMap<Integer, int[]> line = new TreeMap<>(lines.get(id));
        if (method.equals("put")) {
            require(!line.containsKey(p[1]) && line.size() < 32);
            if (!allowed(kinds[id], p[2], p[3], p[4])) {
                throw new UnsupportedOperationException();
            }
            line.put(p[1], new int[] {p[1], p[2], p[3], p[4]});
        } else if (method.equals("strike")) {
            if (line.remove(p[1]) == null) {
                return 0;
            }
        } else {
            require(!line.containsKey(p[2]));
            exists(line.containsKey(p[1]));
            int[] moved = line.remove(p[1]);
            line.put(p[2], new int[] {p[2], moved[1], moved[2], moved[3]});
        }
        before.set(id, lines.get(id));
        lines.set(id, line);
        return method.equals("strike") ? 1 : 0;
    }

    private long ask(String method, int[] p) {
        int id = p[0];
        int time = p[1];
        moment(time);
        if (method.equals("together")) {
            argue(p[2] >= 0 && p[2] <= 15 && p[3] >= 0 && p[3] <= 15);
        }
        isOpen(id);
        int kind = kinds[id];
        Run run = run(kind, lines.get(id), time);
        switch (method) {
            case "front":
                require(kind == 0 || kind == 1);
                exists(!run.values.isEmpty());
                return kind == 0 ? run.values.getFirst() : run.values.getLast();
            case "size":
                require(kind != 4);
                return kind == 5 ? run.sets.size() : run.values.size() + run.heap.size() + run.table.size();
            case "at":
                require(kind == 2);
                exists(run.table.containsKey(p[2]));
                return run.table.get(p[2]);
            case "least":
                require(kind == 3);
                Collections.sort(run.heap);
                if (p[2] < 0 || p[2] >= run.heap.size()) {
                    throw new IndexOutOfBoundsException();
                }
                return run.heap.get(p[2]);
            case "sum":
                require(kind == 4);
                return run.sum;
            case "together":
                require(kind == 5);
                return setOf(run, p[2]) == setOf(run, p[3]) ? 1 : 0;
            case "result":
                exists(run.outcomes.containsKey(time));
                return run.outcomes.get(time).result();
            case "works":
                exists(run.outcomes.containsKey(time));
                return run.outcomes.get(time).effect() ? 1 : 0;
            default:
                throw new AssertionError(method);
        }
    }

    private long operation(int id, int i, int f) {
        List<int[]> all = new ArrayList<>(lines.get(id).values());
        if (i < 0 || i >= all.size()) {
            throw new IndexOutOfBoundsException();
        }
        return all.get(i)[f];
    }

    private long effective(int id, int from, int to) {
        long found = 0;
        for (Map.Entry<Integer, Outcome> entry : run(kinds[id], lines.get(id), to).outcomes.entrySet()) {
            if (entry.getKey() >= from && entry.getValue().effect()) {
                found++;
            }
        }
        return found;
    }

    private long firstChange(int id, int from, int to) {
        Map<Integer, Outcome> was = run(kinds[id], before.get(id), to).outcomes;
        Map<Integer, Outcome> is = run(kinds[id], lines.get(id), to).outcomes;
        TreeSet<Integer> moments = new TreeSet<>(was.keySet());
        moments.addAll(is.keySet());
        for (int moment : moments) {
            boolean same = was.containsKey(moment) && is.containsKey(moment) && was.get(moment).equals(is.get(moment));
            if (moment >= from && !same) {
                return moment;
            }
        }
        return 0;
    }

    private static Run run(int kind, TreeMap<Integer, int[]> line, int time) {
        Run run = new Run();
        for (int element = 0; element < 16; element++) {
            run.sets.add(new HashSet<>(Set.of(element)));
        }
        for (Map.Entry<Integer, int[]> entry : line.headMap(time, true).entrySet()) {
            int[] o = entry.getValue();
            Outcome outcome = o[1] == 2 ? take(run, kind, o[2]) : give(run, kind, o[2], o[3]);
            run.outcomes.put(entry.getKey(), outcome);
        }
        return run;
    }

    private static Outcome take(Run run, int kind, int key) {
        Integer taken;
        if (kind == 2) {
            taken = run.table.remove(key);
        } else if (kind == 3) {
            taken = run.heap.isEmpty() ? null : Collections.min(run.heap);
            run.heap.remove(taken);
        } else {
            taken = kind == 0 ? run.values.pollFirst() : run.values.pollLast();
        }
        return taken == null ? new Outcome(0, false) : new Outcome(taken, true);
    }

    private static Outcome give(Run run, int kind, int a, int b) {
        switch (kind) {
            case 2:
                return new Outcome(0, run.table.putIfAbsent(a, b) == null);
            case 3:
                run.heap.add(a);
                return new Outcome(0, true);
            case 4:
                run.sum += a;
                if (run.sum < 0) {
                    run.sum = 0;
                }
                return new Outcome(run.sum, true);
            case 5:
                Set<Integer> one = setOf(run, a);
                Set<Integer> other = setOf(run, b);
                if (one == other) {
                    return new Outcome(0, false);
                }
                run.sets.removeIf(set -> set == other);
                one.addAll(other);
                return new Outcome(0, true);
            default:
                run.values.addLast(a);
                return new Outcome(0, true);
        }
    }

    private static Set<Integer> setOf(Run run, int element) {
        for (Set<Integer> set : run.sets) {
            if (set.contains(element)) {
                return set;
            }
        }
        throw new AssertionError(element);
    }

    private static boolean allowed(int kind, int name, int a, int b) {
        int max = 1000000000;
        if (name != 1 && name != 2) {
            return false;
        }
        switch (kind * 10 + name) {
            case 1: case 11: case 31:
                return a >= 0 && a <= max && b == 0;
            case 2: case 12: case 32:
                return a == 0 && b == 0;
            case 21:
                return a >= 0 && a <= max && b >= 0 && b <= max;
            case 22:
                return a >= 0 && a <= max && b == 0;
            case 41:
                return a >= -max && a <= max && b == 0;
            case 51:
                return a >= 0 && a <= 15 && b >= 0 && b <= 15;
            default:
                return false;
        }
    }

    private void isOpen(int id) {
        require(kinds[id] != null);
    }

    private static void moment(int time) {
        argue(time >= 1 && time <= 1000000000);
    }

    private static void argue(boolean holds) {
        if (!holds) {
            throw new IllegalArgumentException();
        }
    }

    private static void require(boolean holds) {
        if (!holds) {
            throw new IllegalStateException();
        }
    }

    private static void exists(boolean holds) {
        if (!holds) {
            throw new NoSuchElementException();
        }
    }
}
