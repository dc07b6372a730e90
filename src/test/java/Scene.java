import java.util.ArrayList;
import java.util.Arrays;
import java.util.List;

/**
 * A run of calls that can be done on any number of new objects. Each question and each refused call gets
 * objects of its own, which are compared afterwards with objects that were spared it: so a test may look
 * behind every single call, and yet no object is used for more than its 512 calls.
 */
final class Scene {
    private record Step(String name, int[] p) { }

    private static final int MOST_CALLS = 512;

    private final Check check;
    private final List<Step> story = new ArrayList<>();
    /** What the four collections show without a further call; null when the story has grown since. */
    private String[] spared;

    Scene(Check check) {
        this.check = check;
    }

    /** Collection 0 is open. */
    static Scene opened(Check check, int kind) {
        Scene scene = new Scene(check);
        scene.does(0, "open", 0, kind);
        return scene;
    }

    /** A call that belongs to the story: all that is said of this scene later comes behind it. */
    Scene does(long want, String name, int... p) {
        check.due(told(name, p), String.valueOf(want), Calls.answer(replayed(), name, p));
        story.add(new Step(name, p));
        spared = null;
        return this;
    }

    Scene puts(int id, int time, int name, int a, int b) {
        return does(0, "put", id, time, name, a, b);
    }

    void asks(long want, String name, int... p) {
        changesNothing(String.valueOf(want), name, p);
    }

    void refuses(String want, String name, int... p) {
        changesNothing(want, name, p);
    }

    private void changesNothing(String want, String name, int... p) {
        check.due(told(name, p), want, Calls.answer(replayed(), name, p));
        if (spared == null) {
            spared = new String[4];
            for (int id = 0; id < 4; id++) {
                spared[id] = shown(replayed(), id);
            }
        }
        for (int id = 0; id < 4; id++) {
            EditablePast x = replayed();
            Calls.answer(x, name, p);
            check.due("collection " + id + " behind " + told(name, p), spared[id], shown(x, id));
        }
    }

    private EditablePast replayed() {
        EditablePast x = new EditablePast();
        for (Step step : story) {
            Calls.call(x, step.name(), step.p());
        }
        return x;
    }

    /** All that can be asked of a collection. */
    private String shown(EditablePast x, int id) {
        List<String> all = new ArrayList<>();
        String operations = ask(all, x, "operations", id);
        if (!operations.startsWith("java")) {
            for (int i = 0; i < Integer.parseInt(operations); i++) {
                showOperation(all, x, id, i);
            }
            showContents(all, x, id);
            showChanges(all, x, id);
        }
        check.due("more calls than an object is used for", false, story.size() + 1 + all.size() > MOST_CALLS);
        return String.join(" ", all);
    }

    private static void showOperation(List<String> all, EditablePast x, int id, int i) {
        int time = Integer.parseInt(ask(all, x, "operation", id, i, 0));
        ask(all, x, "operation", id, i, 1);
        int a = Integer.parseInt(ask(all, x, "operation", id, i, 2));
        ask(all, x, "operation", id, i, 3);
        ask(all, x, "result", id, time);
        ask(all, x, "works", id, time);
        if (ask(all, x, "size", id, time).equals(Calls.STATE)) {
            ask(all, x, "sum", id, time);
        }
        ask(all, x, "at", id, Calls.MAX, a);
        ask(all, x, "least", id, Calls.MAX, i);
    }

    private static void showContents(List<String> all, EditablePast x, int id) {
        for (int element = 0; element < 15; element++) {
            ask(all, x, "together", id, Calls.MAX, element, element + 1);
        }
        for (String name : new String[] {"front", "size", "sum"}) {
            ask(all, x, name, id, Calls.MAX);
        }
    }

    /** Both lines together have at most 33 moments in which they may differ. */
    private static void showChanges(List<String> all, EditablePast x, int id) {
        int from = 1;
        for (int i = 0; i <= 33 && from > 0 && from <= Calls.MAX; i++) {
            int change = Integer.parseInt(ask(all, x, "firstChange", id, from, Calls.MAX));
            from = change == 0 ? 0 : change + 1;
        }
    }

    private static String ask(List<String> all, EditablePast x, String name, int... p) {
        String answer = Calls.answer(x, name, p);
        all.add(answer);
        return answer;
    }

    private String told(String name, int... p) {
        StringBuilder text = new StringBuilder();
        if (story.size() > 6) {
            text.append(".. ");
        }
        for (Step step : story.subList(Math.max(0, story.size() - 6), story.size())) {
            text.append(step.name()).append(Arrays.toString(step.p())).append(' ');
        }
        return text + "then " + name + Arrays.toString(p);
    }
}
