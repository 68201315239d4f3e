import java.io.IOException;
import java.lang.reflect.Constructor;
import java.lang.reflect.Field;
import java.lang.reflect.Method;
import java.lang.reflect.Modifier;
import java.nio.file.Files;
import java.nio.file.Path;
import java.util.Set;
import java.util.TreeSet;
import java.util.regex.MatchResult;
import java.util.regex.Pattern;
import java.util.stream.Collectors;

/** What LANGUAGE.md rules out and a search for words can find. It is run in the project's folder. */
public final class LanguageTest {
    private static final String[] RULED_OUT = {
        "\\bpackage\\b", "\\bimport\\b", "\\bthrow\\b", "\\bthrows\\b", "\\btry\\b", "\\bcatch\\b", "\\bfinally\\b",
        "\\bsynchronized\\b", "\\bassert\\b", "\\bprotected\\b", "->", "::", "@", "\\bObject\\b", "\\bSystem\\.(?!arraycopy)",
        "\\b(equals|hashCode|toString)\\b", "Exact\\b", "\\bstatic\\s*\\{", "\\[\\]\\[\\]\\[\\]", "\\binstanceof\\b", "\"", "\\b(float|double)\\b"
    };
    /** What it calls now; LANGUAGE.md lets it call these. */
    private static final Set<String> LIBRARY = Set.of("Integer.bitCount", "Integer.numberOfTrailingZeros", "Long.bitCount",
        "Math.max", "Math.min");
    private static final Set<String> CONSTANT_TYPES = Set.of("int", "long", "boolean", "char", "java.lang.String");
    private static final Set<String> TYPES = Set.of("int", "long", "short", "byte", "char", "boolean", "void");
    private static final int MOST_LINES = 60;

    public static void main(String[] args) throws IOException {
        Checks checks = new Checks();
        String source = Files.readString(Path.of("src/main/java/SpacedPairs.java"));
        String code = source.replaceAll("(?s)/\\*.*?\\*/", "").replaceAll("//[^\n]*", "");
        for (String words : RULED_OUT) {
            checks.due(words + " in the class", Pattern.compile(words).matcher(code).results().count(), 0);
        }
        checks.due("public classes", Pattern.compile("\\bpublic final class SpacedPairs\\b").matcher(code).results().count(), 1);
        int classes = (int) Pattern.compile("\\b(class|record|enum|interface) \\w+").matcher(code).results().count();
        checks.due("at most twelve classes", Math.max(classes, 12), 12);
        checks.due("room is made in constructors alone", newsOutsideConstructors(code), 0);
        Set<String> called = Pattern.compile("\\b(Integer|Long|Math|Arrays|System|Character|String|StringBuilder|List)\\.\\w+").matcher(code)
            .results().map(MatchResult::group).collect(Collectors.toCollection(TreeSet::new));
        checks.dueText("what it calls of the library", called.toString(), new TreeSet<>(LIBRARY).toString());
        checks.due("the longest method's lines", Math.max(longestMethod(code), MOST_LINES), MOST_LINES);
        members(checks, SpacedPairs.class);
        for (Class<?> inner : SpacedPairs.class.getDeclaredClasses()) {
            members(checks, inner);
        }
        checks.finish();
    }

    /** The rules on fields, types and parameters. */
    private static void members(Checks checks, Class<?> owner) {
        int fields = 0;
        for (Field f : owner.getDeclaredFields()) {
            String name = owner.getSimpleName() + "." + f.getName();
            if (Modifier.isStatic(f.getModifiers())) {
                checks.due(name + " is a constant", Modifier.isFinal(f.getModifiers()) && CONSTANT_TYPES.contains(f.getType().getName()) ? 1 : 0, 1);
            } else {
                fields++;
            }
            dueType(checks, name, f.getType());
        }
        checks.due("fields of " + owner.getSimpleName(), Math.max(fields, 20), 20);
        for (Method m : owner.getDeclaredMethods()) {
            String name = owner.getSimpleName() + "." + m.getName() + "()";
            checks.due("parameters of " + name, Math.max(m.getParameterCount(), 7), 7);
            dueType(checks, name, m.getReturnType());
            for (Class<?> type : m.getParameterTypes()) {
                dueType(checks, name, type);
            }
        }
        for (Constructor<?> made : owner.getDeclaredConstructors()) {
            checks.due("parameters to make " + owner.getSimpleName(), Math.max(made.getParameterCount(), 7), 7);
        }
    }

    private static void dueType(Checks checks, String name, Class<?> type) {
        Class<?> element = type.isArray() ? type.getComponentType() : type;
        boolean isAllowed = TYPES.contains(element.getName()) || element.getName().startsWith("SpacedPairs");
        checks.due("the type of " + name + ", " + type.getName(), isAllowed ? 1 : 0, 1);
    }

    /** The lines from a method's first one to the brace that closes it, the greatest number of them. */
    private static int longestMethod(String code) {
        int longest = 0;
        int lines = 0;
        for (String line : code.split("\n")) {
            boolean begins = line.matches("(    |        )(?!switch|for|if|while)[a-zA-Z].*\\) \\{");
            lines = begins ? 1 : lines + 1;
            if (line.matches("(    |        )\\}")) {
                longest = Math.max(longest, lines);
            }
        }
        return longest;
    }

    /** Counts the lines with a new object or array that do not stand in a constructor. */
    private static int newsOutsideConstructors(String code) {
        int news = 0;
        boolean inConstructor = false;
        for (String line : code.split("\n")) {
            if (line.matches("\\s+(public )?[A-Z]\\w*\\(.*\\) \\{")) {
                inConstructor = true;
            } else if (line.matches("(    |        )\\}")) {
                inConstructor = false;
            } else if (line.matches(".*\\bnew\\b.*") && !inConstructor) {
                news++;
            }
        }
        return news;
    }
}
