import java.io.IOException;
import java.nio.file.Files;
import java.nio.file.Path;
import java.util.regex.Pattern;

/** What LANGUAGE.md rules out and a search for words can find. It is run in the project's folder. */
public final class LanguageTest {
    private static final String[] RULED_OUT = {
        "\\bpackage\\b", "\\bimport\\b", "\\bthrow\\b", "\\bthrows\\b", "\\btry\\b", "\\bcatch\\b", "\\bfinally\\b",
        "\\bsynchronized\\b", "\\bassert\\b", "\\bprotected\\b", "->", "::", "@", "\\bObject\\b", "\\bSystem\\.(?!arraycopy)",
        "\\b(equals|hashCode|toString)\\b", "Exact\\b", "\\bstatic\\s*\\{", "\\[\\]\\[\\]\\[\\]", "\\binstanceof\\b"
    };

    public static void main(String[] args) throws IOException {
        Checks checks = new Checks();
        String source = Files.readString(Path.of("src/main/java/SpacedPairs.java"));
        String code = source.replaceAll("(?s)/\\*.*?\\*/", "").replaceAll("//[^\n]*", "");
        for (String words : RULED_OUT) {
            checks.due(words + " in the class", Pattern.compile(words).matcher(code).results().count(), 0);
        }
        checks.due("public classes", Pattern.compile("\\bpublic final class SpacedPairs\\b").matcher(code).results().count(), 1);
        int classes = (int) Pattern.compile("\\b(class|record|enum|interface) \\w+").matcher(code).results().count();
        checks.due("at most twelve classes", Math.max(classes, 12), 12);
        checks.due("room is made in constructors alone", newsOutsideConstructors(code), 0);
        checks.finish();
    }

    /** Counts the lines with a new object or array that do not stand in a constructor. */
    private static int newsOutsideConstructors(String code) {
        int news = 0;
        boolean inConstructor = false;
        for (String line : code.split("\n")) {
            if (line.matches("\\s+(public )?[A-Z]\\w*\\(.*\\) \\{")) {
                inConstructor = true;
            } else if (line.matches("(    |        )\\}")) {
                inConstructor = false;
            } else if (line.matches(".*\\bnew\\b.*") && !inConstructor) {
                news++;
            }
        }
        return news;
    }
}
