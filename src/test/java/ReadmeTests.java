import java.lang.reflect.InvocationTargetException;
import java.lang.reflect.Method;
import java.lang.reflect.Modifier;
import java.nio.file.Files;
import java.nio.file.Path;
import java.util.Set;
import java.util.TreeSet;
import java.util.regex.Matcher;
import java.util.regex.Pattern;

/** Makes the calls of README.md's example, one after the other on one desk, and checks what it says of each. */
public final class ReadmeTests extends Bench {
    private static final Pattern EXAMPLE = Pattern.compile("```java\n(.*?)```", Pattern.DOTALL);
    private static final Pattern LINE = Pattern.compile("desk\\.(\\w+)\\((.*?)\\); *// (.+)");
    private static final Pattern HOLDS = Pattern.compile("register (\\d) holds (\\S+)");
    private static final Pattern OUTPUT = Pattern.compile("(?:answers \\S+, )?the output is \"(.*)\"");
    private static final Pattern OUTCOME = Pattern.compile("(?:answers|throws) ([^\\s,]+).*");

    private static final Set<String> called = new TreeSet<>();

    public static void main(String[] args) throws Exception {
        String readme = Files.readString(Path.of("README.md"));
        Matcher example = EXAMPLE.matcher(readme);
        due("README.md has an example", example.find(), true);
        String[] lines = example.group(1).split("\n");
        due("the example's first line", lines[0], "WideDecimalDesk desk = new WideDecimalDesk();");
        WideDecimalDesk desk = new WideDecimalDesk();
        for (int i = 1; i < lines.length; i++) checkLine(desk, lines[i]);
        due("the example has every method of the face", called, face());
        due("README.md says how the tests are run", readme.contains("\n    .ci/run\n"), true);
        finish();
    }

    private static void checkLine(WideDecimalDesk desk, String line) throws Exception {
        Matcher parts = LINE.matcher(line);
        if (!parts.matches()) {
            due(line, "is no call with a comment", "a call with a comment");
            return;
        }
        called.add(parts.group(1));
        String said = parts.group(3);
        String outcome = outcome(desk, parts.group(1), parts.group(2));
        Matcher holds = HOLDS.matcher(said);
        Matcher output = OUTPUT.matcher(said);
        Matcher due = OUTCOME.matcher(said);
        boolean tellsHeld = holds.matches();
        boolean tellsOutput = output.matches();
        boolean tellsOutcome = due.matches();
        due(line, outcome, tellsOutcome ? due.group(1) : "nothing");
        due(line + " says something", tellsHeld || tellsOutput || tellsOutcome, true);
        if (tellsHeld) holds(line, desk, Integer.parseInt(holds.group(1)), holds.group(2));
        if (tellsOutput) due(line, output(desk), output.group(1));
    }

    /** The answer, the exception's name, or "nothing". */
    private static String outcome(WideDecimalDesk desk, String name, String arguments) throws Exception {
        Method method = method(name);
        try {
            Object answer = method.invoke(desk, read(arguments, method.getParameterTypes()));
            return answer == null ? "nothing" : answer.toString();
        } catch (InvocationTargetException e) {
            return e.getCause().getClass().getSimpleName();
        }
    }

    private static Method method(String name) {
        for (Method method : WideDecimalDesk.class.getDeclaredMethods()) {
            if (method.getName().equals(name) && Modifier.isPublic(method.getModifiers())) return method;
        }
        throw new IllegalArgumentException("README.md calls " + name + ", which the face does not have");
    }

    private static Object[] read(String arguments, Class<?>[] types) {
        String[] words = arguments.isEmpty() ? new String[0] : arguments.split(", ");
        Object[] all = new Object[words.length];
        for (int i = 0; i < all.length; i++) all[i] = read(words[i], types[i]);
        return all;
    }

    private static Object read(String word, Class<?> type) {
        if (type == long.class) return Long.valueOf(word);
        if (type == boolean.class) return Boolean.valueOf(word);
        if (type == char.class) return word.charAt(1);
        return Integer.valueOf(word);
    }

    private static Set<String> face() {
        Set<String> names = new TreeSet<>();
        for (Method method : WideDecimalDesk.class.getDeclaredMethods()) {
            if (Modifier.isPublic(method.getModifiers())) names.add(method.getName());
        }
        return names;
    }
}
