import java.io.IOException;
import java.lang.reflect.InvocationTargetException;
import java.lang.reflect.Method;
import java.nio.file.Files;
import java.nio.file.Path;
import java.util.Set;
import java.util.TreeSet;
import java.util.regex.Matcher;
import java.util.regex.Pattern;

/**
 * Does the calls that README.md shows. They are read from it and not written here once more, so that what
 * is shown and what is tested cannot come apart; a line of an example that this test cannot read fails it.
 */
public final class ReadmeTest {
    private static final String BEGIN = "```java";
    private static final String END = "```";
    private static final String NEW_OBJECT = "EditablePast past = new EditablePast();";
    private static final Pattern CALL = Pattern.compile("past\\.(\\w+)\\((-?\\d+(?:, -?\\d+)*)\\); +// (.+)");
    private static final String THROWS = "throws ";
    private static final String NO_ANSWER = "no answer";

    private final Check check = new Check();
    private final Set<String> shown = new TreeSet<>();
    /** The object of the example that is being read; null before its first line. */
    private EditablePast past;

    public static void main(String[] args) throws IOException {
        ReadmeTest test = new ReadmeTest();
        test.doExamples();
        test.everyCallIsShown();
        test.check.end();
    }

    private void doExamples() throws IOException {
        boolean inExample = false;
        for (String line : Files.readAllLines(Path.of("README.md"))) {
            if (line.equals(BEGIN)) {
                inExample = true;
                past = null;
            } else if (line.equals(END)) {
                inExample = false;
            } else if (inExample) {
                doLine(line);
            }
        }
        check.due("the last example has an end", false, inExample);
    }

    private void doLine(String line) {
        if (line.equals(NEW_OBJECT)) {
            check.due("an example has one object", true, past == null);
            past = new EditablePast();
            return;
        }
        Matcher call = CALL.matcher(line);
        Method method = call.matches() ? methodNamed(call.group(1)) : null;
        if (past == null || method == null) {
            check.due(line, "a call of the face on the example's object", "none");
            return;
        }
        shown.add(method.getName());
        check.due(line, due(method, call.group(3)), answer(method, call.group(2)));
    }

    /** The answer stands before the first colon; behind a call without an answer stands what it does. */
    private static String due(Method method, String comment) {
        boolean answers = method.getReturnType() != void.class;
        return answers || comment.startsWith(THROWS) ? comment.split(":")[0] : NO_ANSWER;
    }

    private String answer(Method method, String numbers) {
        String[] texts = numbers.split(", ");
        Object[] arguments = new Object[texts.length];
        for (int i = 0; i < texts.length; i++) {
            arguments[i] = Integer.valueOf(texts[i]);
        }
        try {
            Object answer = method.invoke(past, arguments);
            return answer == null ? NO_ANSWER : answer.toString();
        } catch (InvocationTargetException e) {
            return THROWS + e.getCause().getClass().getSimpleName();
        } catch (IllegalAccessException | IllegalArgumentException e) {
            return "no such call of the face";
        }
    }

    private static Method methodNamed(String name) {
        for (Method method : EditablePast.class.getMethods()) {
            if (method.getDeclaringClass() == EditablePast.class && method.getName().equals(name)) {
                return method;
            }
        }
        return null;
    }

    /** So that README.md tells of the whole class, and the test has not just found no examples. */
    private void everyCallIsShown() {
        for (String name : Calls.NAMES) {
            check.due("README.md shows " + name, true, shown.contains(name));
        }
    }
}
