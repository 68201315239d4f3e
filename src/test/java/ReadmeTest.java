import java.io.IOException;
import java.lang.reflect.Method;
import java.lang.reflect.Modifier;
import java.nio.file.Files;
import java.nio.file.Path;
import java.util.Arrays;
import java.util.regex.Matcher;
import java.util.regex.Pattern;

/** The calls of README.md answer as it says, and it names every method. It is run in the project's folder. */
public final class ReadmeTest {
    private static final Pattern CALL = Pattern.compile("x\\.(\\w+)\\((.*)\\); +// (-?\\d+)\\b.*");
    private static final int CALLS = 31;

    public static void main(String[] args) throws IOException {
        Checks checks = new Checks();
        String readme = Files.readString(Path.of("README.md"));
        String[] parts = readme.split("```java\n|```\n");
        SpacedPairs x = new SpacedPairs();
        int calls = 0;
        for (String line : parts[1].split("\n")) {
            Matcher call = CALL.matcher(line);
            if (call.matches()) {
                checks.dueText(line, answerOf(x, call.group(1), call.group(2)), call.group(3));
                calls++;
            } else {
                boolean isNoCall = line.isEmpty() || line.equals("SpacedPairs x = new SpacedPairs();");
                checks.dueText("is it a call? " + line, Boolean.toString(isNoCall), "true");
            }
        }
        checks.due("calls", calls, CALLS);
        for (Method m : SpacedPairs.class.getDeclaredMethods()) {
            if (Modifier.isPublic(m.getModifiers())) {
                checks.due("lines of the table with " + m.getName(),
                    readme.lines().filter(line -> line.startsWith("| `") && line.contains("`" + m.getName() + "`")).count(), 1);
            }
        }
        checks.finish();
    }

    private static String answerOf(SpacedPairs x, String name, String written) {
        Object[] given = Pattern.compile(", ").splitAsStream(written).filter(word -> !word.isEmpty()).map(ReadmeTest::valueOf).toArray();
        for (Method m : SpacedPairs.class.getDeclaredMethods()) {
            if (m.getName().equals(name) && m.getParameterCount() == given.length) {
                try {
                    return String.valueOf(m.invoke(x, given));
                } catch (ReflectiveOperationException | IllegalArgumentException e) {
                    return e.toString();
                }
            }
        }
        return "no method for " + name + Arrays.toString(given);
    }

    private static Object valueOf(String word) {
        if (word.equals("true") || word.equals("false")) {
            return Boolean.valueOf(word);
        }
        return word.startsWith("'") ? (int) word.charAt(1) : Integer.parseInt(word);
    }
}
