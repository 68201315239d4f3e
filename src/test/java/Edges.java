import java.io.IOException;
import java.nio.file.Files;
import java.nio.file.Path;
import java.util.ArrayList;
import java.util.LinkedHashMap;
import java.util.LinkedHashSet;
import java.util.List;
import java.util.Map;
import java.util.Set;
import java.util.function.Supplier;
import java.util.function.ToIntFunction;
import java.util.regex.Matcher;
import java.util.regex.Pattern;
import java.util.stream.IntStream;

/**
 * Tests the document sentence by sentence. A test begins with the words that it tests, which must stand
 * in the document; in the end no sentence of the document may be left without answers, unless it is said
 * to promise nothing.
 */
final class Edges {
    private final Checks checks = new Checks();
    private final Set<String> untested = new LinkedHashSet<>();
    private final Set<String> tested = new LinkedHashSet<>();
    private final Set<String> free = new LinkedHashSet<>();
    private final Map<String, List<String>> sections = new LinkedHashMap<>();
    private String now = "";
    private int answersNow = 1;

    /** Reads the document; the tests are run in the project's folder. */
    Edges() throws IOException {
        for (String section : Files.readString(Path.of("../shared/DOC.md")).split("(?m)^## ")) {
            String[] lines = section.split("\n");
            String name = nameOf(lines[0]);
            List<String> parts = new ArrayList<>();
            for (int i = 1; i < lines.length; i++) {
                parts.addAll(partsOf(lines[i].trim()));
            }
            sections.put(name, parts);
            parts.forEach(words -> untested.add(label(name, words)));
        }
    }

    private static String nameOf(String heading) {
        Matcher promise = Pattern.compile("Promise (\\d+):.*").matcher(heading);
        return promise.matches() ? nameOf(Integer.parseInt(promise.group(1))) : heading;
    }

    static String nameOf(int promise) {
        return "promise " + promise;
    }

    /** The sentences of a line, also between semicolons; a rule keeps its number, a line of code is one. */
    private static List<String> partsOf(String line) {
        boolean isHeading = line.matches("[A-Z]+\\.|----.*|```.*|\\}");
        if (line.isEmpty() || isHeading) {
            return List.of();
        }
        if (line.startsWith("`") || line.startsWith("public ")) {
            return List.of(line);
        }
        return List.of(line.split("(?<!^\\d)[;.:]$|(?<!^\\d)[;.] |(?<=\\.\\)) "));
    }

    private static String label(String section, String words) {
        return section + ", " + words;
    }

    /** The sentences of a section in their order. */
    List<String> sentencesOf(String section) {
        return sections.getOrDefault(section, List.of());
    }

    /** Begins the test of a sentence of a promise, or of a part between semicolons. */
    void sentence(int promise, String words) {
        sentence(nameOf(promise), words);
    }

    /** The same for a section that is no promise, by its heading. */
    void sentence(String section, String words) {
        endSentence();
        now = label(section, words);
        boolean stands = untested.remove(now) || tested.contains(now);
        tested.add(now);
        checks.dueText(now + ": it stands in the document", Boolean.toString(stands), "true");
    }

    /** Names a sentence that leaves something free, so that no answer could break it. */
    void promisesNothing(String section, String words) {
        String label = label(section, words);
        boolean stands = untested.remove(label);
        free.add(label);
        checks.dueText(label + ": it stands in the document", Boolean.toString(stands), "true");
    }

    private void endSentence() {
        checks.dueText(now + ": it has answers", Boolean.toString(answersNow > 0), "true");
        answersNow = 0;
    }

    void due(String call, int got, int want) {
        answersNow++;
        checks.due(now + ": " + call, got, want);
    }

    void dueText(String what, String got, String want) {
        answersNow++;
        checks.dueText(now + ": " + what, got, want);
    }

    /** A call that answers with a code, or only asks, leaves its object as one is that never had the call. */
    void unchanged(Supplier<SpacedPairs> made, String call, ToIntFunction<SpacedPairs> called, int want) {
        SpacedPairs x = made.get();
        due(call, called.applyAsInt(x), want);
        dueText("all after " + call, Witness.of(x), Witness.of(made.get()));
    }

    /** The same with an object of which everything is in use. */
    void unchanged(String call, ToIntFunction<SpacedPairs> called, int want) {
        unchanged(Made::busy, call, called, want);
    }

    /** Numbers around a range, and those that a shift or a narrower number would take for one in it. */
    static int[] outside(int low, int high) {
        return IntStream.of(low - 1, high + 1, low - 2, high + 2, low - 32, high + 32, low + 32, low + 64, low + 256,
                low - 256, low + 65536, low - 65536, low + (1 << 30), low ^ Integer.MIN_VALUE, Integer.MIN_VALUE,
                Integer.MIN_VALUE + 1, Integer.MAX_VALUE - 1, Integer.MAX_VALUE)
            .filter(number -> number < low || number > high)
            .distinct()
            .toArray();
    }

    void finish() {
        endSentence();
        checks.dueText("sentences without a test", untested.toString(), "[]");
        System.out.println(tested.size() + " sentences, and " + free.size() + " that promise nothing");
        checks.finish();
    }
}
