import java.util.ArrayList;
import java.util.Collection;
import java.util.List;
import java.util.TreeSet;
import java.util.function.Supplier;

/** What the Description says of the words that the promises use: problems, arrangements, texts, triples. */
final class WordEdges {
    private static final int NO_SUCH = SpacedPairs.NO_SUCH;
    private static final int BAD_VALUE = SpacedPairs.BAD_VALUE;
    private static final int BAD_TEXT = SpacedPairs.BAD_TEXT;
    private static final int NONE = SpacedPairs.NONE;
    private static final String WORDS = "Description";

    private final Edges e;

    private WordEdges(Edges edges) {
        e = edges;
    }

    static void test(Edges edges) {
        WordEdges t = new WordEdges(edges);
        t.problems();
        t.positions();
        t.holesOrFree();
        t.differences();
        t.pins();
        t.arrangements();
        t.rows();
        t.pinnedRows();
        t.faults();
        t.textsOfRows();
        t.judged();
        t.verdictNone();
        t.numberOfDifferences();
        t.triples();
    }

    private void problems() {
        e.sentence(WORDS, "A problem has a length from 1 to 18, a set of holes, and a set of differences");
        for (int length = 1; length <= 18; length++) {
            int all = (1 << length) - 1;
            for (int holes : new int[] {0, 1, all, all & 0x15555, all & 0x2AAAA}) {
                for (int differences : new int[] {2, 1 << 17, 0xFF << 1, 0xFF << 10, 0x15554}) {
                    SpacedPairs x = Made.set(length, holes, differences);
                    String name = "set(" + length + ", " + holes + ", " + differences + ")";
                    e.due("the length of " + name, x.problem(0), length);
                    e.due("the holes of " + name, x.problem(1), holes);
                    e.due("the differences of " + name, x.problem(2), differences);
                }
            }
        }
        e.due("the length 0", new SpacedPairs().set(0, 0, 2), BAD_VALUE);
        e.due("the length 19", new SpacedPairs().set(19, 0, 2), BAD_VALUE);
    }

    private void positions() {
        e.sentence(WORDS, "The positions are 0 to length - 1");
        for (int length = 1; length <= 18; length++) {
            for (int p = -1; p <= 18; p++) {
                SpacedPairs x = Made.set(length, 0, 2);
                boolean isPosition = p >= 0 && p < length;
                String name = p + " of " + length;
                e.due("at(0, p), " + name, x.at(0, p), !isPosition ? NO_SUCH : length == 2 ? 1 : NONE);
                e.due("frequency(p, 0), " + name, x.frequency(p, 0), isPosition ? 0 : NO_SUCH);
                e.due("options(p), " + name, x.options(p), !isPosition ? NO_SUCH : length == 2 ? 2 : 0);
                e.due("pin(p, 1), " + name, x.pin(p, 1), isPosition ? 0 : NO_SUCH);
                e.due("set() with the hole " + name, x.set(length, p < 0 ? 0 : 1 << p, 2), isPosition || p < 0 ? 1 : BAD_VALUE);
            }
        }
    }

    private void holesOrFree() {
        e.sentence(WORDS, "a position is a hole or free");
        for (int length = 1; length <= 18; length++) {
            int all = (1 << length) - 1;
            for (int holes : new int[] {0, 1, all, all >> 1, all & 0x15555, all & 0x2AAAA}) {
                SpacedPairs x = Made.set(length, holes, 2);
                e.due("free positions of " + length + " with the holes " + holes, x.problem(4), length - Integer.bitCount(holes));
            }
        }
        for (int free = 0; free < 17; free++) {
            SpacedPairs x = Made.set(18, 0x3FFFF & ~(3 << free), 2);
            for (int p = 0; p < 18; p++) {
                boolean isFree = p == free || p == free + 1;
                e.due("holes at " + p + " beside " + free, x.frequency(p, 0), isFree ? 0 : 1);
                e.due("what is at " + p + " beside " + free, x.frequency(p, 1), isFree ? 1 : 0);
            }
        }
    }

    private void differences() {
        e.sentence(WORDS, "The differences are from 1 to 17");
        for (int d = 0; d <= 31; d++) {
            int code = d >= 1 && d <= 17 ? 1 : BAD_VALUE;
            e.due("set() with " + d, new SpacedPairs().set(18, 0, 1 << d), code);
            e.due("starts() of " + d, Made.set(18, 0, 1 << d).starts(d), d == 1 ? 0x1FFFF : code == 1 ? (1 << (18 - d)) - 1 : NO_SUCH);
        }

        e.sentence(WORDS, "there are at most 8");
        for (int n = 1; n <= 17; n++) {
            e.due("set() with the least " + n, new SpacedPairs().set(18, 0, (1 << n) - 1 << 1), n <= 8 ? n : BAD_VALUE);
            e.due("set() with the greatest " + n, new SpacedPairs().set(18, 0, (1 << n) - 1 << (18 - n)), n <= 8 ? n : BAD_VALUE);
        }
        e.due("langford() with 8", new SpacedPairs().langford(1, 8, false), 16);
        e.due("langford() with 9", new SpacedPairs().langford(1, 9, false), BAD_VALUE);
        e.due("near() with 8", new SpacedPairs().near(9, 1, false), 16);
        e.due("near() with 9", new SpacedPairs().near(10, 1, false), BAD_VALUE);
    }

    private void pins() {
        e.sentence(WORDS, "A pin consists of a position and a difference");
        for (int p = 0; p < 18; p++) {
            for (int d = 1; d <= 17; d++) {
                SpacedPairs x = Made.pinned(Made.set(18, 0, 2), p, d);
                e.due("the pin " + d + " at " + p, x.problem(3), 1 << p);
                for (int other = 0; other < 18; other++) {
                    e.due("pin(" + other + ", 0) with " + d + " at " + p, x.pin(other, 0), other == p ? d : 0);
                }
            }
        }
    }

    /** The rows of all ways to give the differences starts, with each position used just once. */
    private static Collection<String> rowsOf(int length, int holes, int differences) {
        Collection<String> rows = new TreeSet<>();
        addRows(rows, new int[length], holes, differences);
        return rows;
    }

    private static void addRows(Collection<String> rows, int[] row, int used, int differences) {
        if (differences == 0) {
            if (used == (1 << row.length) - 1) {
                rows.add(textOf(row));
            }
            return;
        }
        int d = Integer.numberOfTrailingZeros(differences);
        for (int s = 0; s + d < row.length; s++) {
            if ((used & (1 << s | 1 << (s + d))) == 0) {
                row[s] = d;
                row[s + d] = d;
                addRows(rows, row, used | 1 << s | 1 << (s + d), differences & ~(1 << d));
                row[s] = 0;
                row[s + d] = 0;
            }
        }
    }

    private static String textOf(int[] row) {
        StringBuilder text = new StringBuilder();
        for (int value : row) {
            text.append(text.length() == 0 ? "" : " ").append(value);
        }
        return text.toString();
    }

    private static List<String> rowsOf(SpacedPairs x) {
        List<String> rows = new ArrayList<>();
        int count = x.count();
        for (int number = 0; number < count; number++) {
            rows.add(Checks.rowOf(x, number));
        }
        return rows;
    }

    private void arrangements() {
        e.sentence(WORDS, "An arrangement gives each difference d a start s, so that s and s + d are free positions, and each free position"
            + " is s or s + d for exactly one difference");
        int most = 0;
        for (int length = 1; length <= 9; length++) {
            for (int holes = 0; holes < 1 << length; holes++) {
                for (int differences = 2; differences < 1 << 8; differences += 2) {
                    if (length - Integer.bitCount(holes) == 2 * Integer.bitCount(differences)) {
                        Collection<String> rows = rowsOf(length, holes, differences);
                        most = Math.max(most, rows.size());
                        SpacedPairs x = Made.set(length, holes, differences);
                        e.dueText("all of length " + length + ", holes " + holes + ", differences " + differences,
                            rowsOf(x).toString(), rows.toString());
                    }
                }
            }
        }
        e.due("the most of one of these problems", most, 6);
        dueStarts(() -> Made.langford(1, 4, false), 6);
        dueStarts(() -> Made.set(13, 2546, 1 << 7 | 1 << 9 | 1 << 10), 2);
        dueStarts(Made::longest, 1);
        dueStarts(() -> Made.langford(1, 7, true), 124);
        dueStarts(() -> Made.set(18, 3, 0x4FE), 512);
    }

    private void dueStarts(Supplier<SpacedPairs> made, int count) {
        e.due("their number", made.get().count(), count);
        for (int number = 0; number < count; number++) {
            SpacedPairs x = made.get();
            int used = x.problem(1);
            int overlaps = 0;
            for (int d = 1; d <= 17; d++) {
                int s = x.start(number, d);
                if (s != NO_SUCH) {
                    int pair = 1 << s | 1 << (s + d);
                    overlaps |= used & pair;
                    used |= pair;
                }
            }
            e.due("what comes twice in " + number, overlaps, 0);
            e.due("all that comes in " + number, used, (1 << x.problem(0)) - 1);
        }
    }

    private void rows() {
        e.sentence(WORDS, "Its row has, for each position, this difference");
        int[][] starts = {{0, 4, 2, 3}, {0, 3, 4, 2}, {5, 0, 1, 3}, {6, 2, 0, 1}, {1, 5, 3, 0}, {6, 1, 2, 0}};
        for (int number = 0; number < starts.length; number++) {
            SpacedPairs x = Made.langford(1, 4, false);
            for (int d = 1; d <= 4; d++) {
                e.due("start(" + number + ", " + d + ")", x.start(number, d), starts[number][d - 1]);
                e.due("the start of " + d + " in " + number, x.at(number, starts[number][d - 1]), d);
                e.due("the end of " + d + " in " + number, x.at(number, starts[number][d - 1] + d), d);
            }
        }
        for (int d = 1; d <= 17; d++) {
            SpacedPairs x = Made.set(18, 0x3FFFF & ~(1 << (17 - d) | 1 << 17), 1 << d);
            e.due("the start of " + d, x.at(0, 17 - d), d);
            e.due("the end of " + d, x.at(0, 17), d);
        }

        e.sentence(WORDS, "at a hole it has 0");
        for (int d = 1; d <= 17; d++) {
            SpacedPairs x = Made.set(18, 0x3FFFF & ~(1 << (17 - d) | 1 << 17), 1 << d);
            for (int p = 0; p < 17; p++) {
                if (p != 17 - d) {
                    e.due("at(0, " + p + ") beside " + d, x.at(0, p), 0);
                }
            }
        }
        e.dueText("a hook", Checks.rowOf(Made.langford(1, 2, true), 0), "1 1 2 0 2");
    }

    private void pinnedRows() {
        e.sentence(WORDS, "Only arrangements count in whose row each pinned position has the difference of its pin");
        List<String> all = rowsOf(Made.langford(1, 4, false));
        e.due("rows without pins", all.size(), 6);
        for (int p = 0; p < 8; p++) {
            for (int d = 1; d <= 5; d++) {
                SpacedPairs x = Made.pinned(Made.langford(1, 4, false), p, d);
                e.dueText("the rows with " + d + " at " + p, rowsOf(x).toString(), withPin(all, p, d).toString());
                for (int other = 0; other < 8; other++) {
                    if (other != p) {
                        x = Made.pinned(Made.pinned(Made.langford(1, 4, false), p, d), other, 4);
                        e.dueText("the rows with 4 at " + other + " too", rowsOf(x).toString(), withPin(withPin(all, p, d), other, 4).toString());
                    }
                }
            }
        }
    }

    private static List<String> withPin(List<String> rows, int position, int difference) {
        return rows.stream().filter(row -> row.split(" ")[position].equals(Integer.toString(difference))).toList();
    }

    private static SpacedPairs saying(String text) {
        return Made.saying(new SpacedPairs(), text);
    }

    private void faults() {
        e.sentence(WORDS, "The fault of a text is the index of the first character that is none of these");
        for (String sign : new String[] {"!", "/", "0", ":", ">", "@", "A", "I", "`", "i", "z", "~", "-", ","}) {
            e.due("fault() of " + sign, saying(sign).fault(), 0);
            e.due("fault() of ?" + sign, saying("?" + sign).fault(), 1);
            e.due("fault() of .19ah" + sign + "!?", saying(".19ah" + sign + "!?").fault(), 5);
            e.due("fault() of 17 and " + sign, saying(".123456789abcdefg" + sign).fault(), 17);
        }
        e.due("fault() of all signs but h", saying("?.123456789abcdefg").fault(), NONE);
        e.due("fault() of h", saying("h").fault(), NONE);
    }

    private void textsOfRows() {
        e.sentence(WORDS, "A row is a text without \"?\"");
        String row = "42324311";
        e.due("judge(0) of a row", Made.saying(Made.langford(1, 4, false), row).judge(0), 0);
        e.due("rank() of a row", Made.saying(Made.langford(1, 4, false), row).rank(), 5);
        e.due("match(0) of a row", Made.saying(Made.langford(1, 4, false), row).match(0), 5);
        for (int i = 0; i < row.length(); i++) {
            SpacedPairs x = Made.saying(Made.langford(1, 4, false), row.substring(0, i) + "?" + row.substring(i + 1));
            e.due("judge(0) with ? at " + i, x.judge(0), BAD_TEXT);
            e.due("judge(1) with ? at " + i, x.judge(1), BAD_TEXT);
            e.due("rank() with ? at " + i, x.rank(), BAD_TEXT);
            e.due("match(0) with ? at " + i, x.match(0), 5);
            e.due("fault() with ? at " + i, x.fault(), NONE);
        }
    }

    private void judged() {
        e.sentence(WORDS, "A row that is as long as the problem is judged by the following rules");
        for (int length = 1; length <= 18; length++) {
            for (int said = Math.max(length - 2, 0); said <= Math.min(length + 2, 18); said++) {
                SpacedPairs x = Made.saying(Made.set(length, (1 << length) - 1, 2), ".".repeat(said));
                e.due("judge(0) of " + said + " in " + length, x.judge(0), said == length ? 0 : BAD_TEXT);
                Made.saying(x, "1".repeat(said));
                e.due("judge(0) of " + said + " ones in " + length, x.judge(0), said != length || said == 0 ? BAD_TEXT : 1);
            }
        }
    }

    private void verdictNone() {
        e.sentence(WORDS, "The verdict is 0 if no rule is broken");
        SpacedPairs x = Made.langford(1, 4, false);
        for (int number = 0; number < 6; number++) {
            x.spell(number);
            e.due("the verdict of the row " + number, x.judge(0), 0);
            e.due("its place", x.judge(1), NONE);
        }
        e.due("a row that lacks a difference", Made.saying(Made.set(2, 0, 6), "11").judge(0), 0);
        e.due("a row that lacks all", Made.saying(Made.set(1, 1, 2), ".").judge(0), 0);
        e.due("a row with all pins", Made.saying(Made.pinned(Made.pinned(new SpacedPairs(), 0, 1), 1, 1), "11").judge(0), 0);
        e.due("a row with a pin on a hole", Made.saying(Made.pinned(Made.set(3, 4, 2), 2, 1), "11.").judge(0), 5);
    }

    private void numberOfDifferences() {
        e.sentence(WORDS, "Let n be the number of differences");
        int[][] solvable = {{2, 0, 2}, {5, 1 << 3, 6}, {6, 0, 0b11100}, {8, 0, 0b11110}, {10, 0, 0b111110}, {13, 1 << 11, 0x7E},
            {15, 1 << 13, 0xFE}, {16, 0, 0x1FE}};
        for (int n = 1; n <= 8; n++) {
            SpacedPairs x = Made.set(solvable[n - 1][0], solvable[n - 1][1], solvable[n - 1][2]);
            int d = n == 3 ? 2 : 1;
            e.due("the second number less the start, with " + n, x.triple(0, d, 1) - x.start(0, d), 1 + n);
            e.due("the arrangements are there, with " + n, Math.min(x.count(), 1), 1);
        }
    }

    private void triples() {
        e.sentence(WORDS, "An arrangement gives each difference d with the start s the triple (d, s + 1 + n, s + d + 1 + n), whose first two"
            + " numbers have the third one as their sum");
        int[][] starts = {{0, 4, 2, 3}, {0, 3, 4, 2}, {5, 0, 1, 3}, {6, 2, 0, 1}, {1, 5, 3, 0}, {6, 1, 2, 0}};
        for (int number = 0; number < starts.length; number++) {
            SpacedPairs x = Made.langford(1, 4, false);
            for (int d = 1; d <= 4; d++) {
                int second = starts[number][d - 1] + 1 + 4;
                e.due("triple(" + number + ", " + d + ", 0)", x.triple(number, d, 0), d);
                e.due("triple(" + number + ", " + d + ", 1)", x.triple(number, d, 1), second);
                e.due("triple(" + number + ", " + d + ", 2)", x.triple(number, d, 2), d + second);
            }
        }
        SpacedPairs x = Made.set(18, 3, 0x4FE);
        for (int number : new int[] {0, 1, 255, 510, 511}) {
            for (int d : new int[] {1, 2, 3, 4, 5, 6, 7, 10}) {
                int sum = x.triple(number, d, 0) + x.triple(number, d, 1);
                e.due("the sum of the first two of " + d + " in " + number, sum, x.triple(number, d, 2));
                e.due("the second of " + d + " in " + number, x.triple(number, d, 1), x.start(number, d) + 1 + 8);
            }
        }
    }
}
