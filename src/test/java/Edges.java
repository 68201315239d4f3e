import java.io.IOException;
import java.nio.file.Files;
import java.nio.file.Path;
import java.util.LinkedHashSet;
import java.util.Set;
import java.util.function.Supplier;
import java.util.function.ToIntFunction;
import java.util.regex.Matcher;
import java.util.regex.Pattern;
import java.util.stream.IntStream;

/**
 * Tests the document sentence by sentence. A test begins with the words that it tests, which must stand
 * in the document; in the end no sentence of the promises may be left without answers.
 */
final class Edges {
    private static final int DESCRIPTION = 0;

    private final Checks checks = new Checks();
    private final String description;
    private final Set<String> untested = new LinkedHashSet<>();
    private final Set<String> tested = new LinkedHashSet<>();
    private String now = "";
    private int answersNow = 1;

    /** Reads the document; the tests are run in the project's folder. */
    Edges() throws IOException {
        String[] sections = Files.readString(Path.of("../shared/DOC.md")).split("(?m)^## ");
        String found = "";
        for (String section : sections) {
            Matcher heading = Pattern.compile("Promise (\\d+):").matcher(section);
            if (heading.lookingAt()) {
                addSentences(Integer.parseInt(heading.group(1)), section);
            } else if (section.startsWith("Description")) {
                found = section;
            }
        }
        description = found;
    }

    private void addSentences(int promise, String section) {
        String[] lines = section.split("\n");
        for (int i = 1; i < lines.length; i++) {
            String line = lines[i].trim();
            // The signature, and the heading of a group of promises, promise nothing by themselves.
            if (!line.isEmpty() && !line.startsWith("`") && !line.startsWith("----")) {
                for (String words : line.split("[;.]( |$)")) {
                    untested.add(label(promise, words));
                }
            }
        }
    }

    private static String label(int promise, String words) {
        return "promise " + promise + ", " + words;
    }

    /** Begins the test of a sentence, or of a part between semicolons; 0 stands for the Description. */
    void sentence(int promise, String words) {
        endSentence();
        now = promise == DESCRIPTION ? "Description, " + words : label(promise, words);
        boolean stands = promise == DESCRIPTION
            ? description.contains(words)
            : untested.remove(now) || tested.contains(now);
        tested.add(now);
        checks.dueText(now + ": it stands in the document", Boolean.toString(stands), "true");
    }

    private void endSentence() {
        checks.dueText(now + ": it has answers", Boolean.toString(answersNow > 0), "true");
        answersNow = 0;
    }

    void due(String call, int got, int want) {
        answersNow++;
        checks.due(now + ": " + call, got, want);
    }

    void dueText(String what, String got, String want) {
        answersNow++;
        checks.dueText(now + ": " + what, got, want);
    }

    /** A call that answers with a code, or only asks, leaves its object as one is that never had the call. */
    void unchanged(Supplier<SpacedPairs> made, String call, ToIntFunction<SpacedPairs> called, int want) {
        SpacedPairs x = made.get();
        due(call, called.applyAsInt(x), want);
        dueText("all after " + call, Witness.of(x), Witness.of(made.get()));
    }

    /** The same with an object of which everything is in use. */
    void unchanged(String call, ToIntFunction<SpacedPairs> called, int want) {
        unchanged(Made::busy, call, called, want);
    }

    /** Numbers around a range, and those that a shift or a narrower number would take for one in it. */
    static int[] outside(int low, int high) {
        return IntStream.of(low - 1, high + 1, low - 2, high + 2, low - 32, high + 32, low + 32, low + 64, low + 256,
                low - 256, low + 65536, low - 65536, low + (1 << 30), low ^ Integer.MIN_VALUE, Integer.MIN_VALUE,
                Integer.MIN_VALUE + 1, Integer.MAX_VALUE - 1, Integer.MAX_VALUE)
            .filter(number -> number < low || number > high)
            .distinct()
            .toArray();
    }

    void finish() {
        endSentence();
        checks.dueText("sentences without a test", untested.toString(), "[]");
        System.out.println(tested.size() + " sentences");
        checks.finish();
    }
}
