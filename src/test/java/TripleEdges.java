/** The edges of the promises 29 to 32: triple, cover, hooks, omissions. */
final class TripleEdges {
    private static final int NO_SUCH = SpacedPairs.NO_SUCH;
    private static final int BAD_VALUE = SpacedPairs.BAD_VALUE;
    private static final int ONE_TO_EIGHT = 0xFF << 1;

    private final Edges e;

    private TripleEdges(Edges edges) {
        e = edges;
    }

    static void test(Edges edges) {
        TripleEdges t = new TripleEdges(edges);
        t.triple();
        t.tripleRefused();
        t.cover();
        t.coverNot();
        t.coverRefused();
        t.hooks();
        t.hooksAlone();
        t.omissions();
        t.omissionsAlone();
    }

    private static SpacedPairs busyWithout() {
        return Made.pinned(Made.busy(), 0, 9);
    }

    private void dueTriple(SpacedPairs x, int number, int... numbers) {
        for (int what = 0; what <= 2; what++) {
            e.due("triple(" + number + ", " + numbers[0] + ", " + what + ")", x.triple(number, numbers[0], what), numbers[what]);
        }
    }

    private void triple() {
        e.sentence(29, "Returns a number of the triple of a difference");
        dueTriple(Made.busy(), 0, 1, 6, 7);
        dueTriple(Made.busy(), 0, 4, 5, 9);
        dueTriple(Made.busy(), 1, 3, 7, 10);
        e.unchanged("triple(1, 4, 2)", x -> x.triple(1, 4, 2), 9);

        e.sentence(29, "- `number`: the number of the arrangement");
        dueTriple(Made.langford(1, 8, false), 0, 1, 9, 10);
        dueTriple(Made.langford(1, 8, false), 503, 8, 9, 17);

        e.sentence(29, "- `difference`: one of the problem");
        dueTriple(new SpacedPairs(), 0, 1, 2, 3);
        dueTriple(Made.longest(), 0, 17, 2, 19);

        e.sentence(29, "- `what`: 0 to 2");
        e.due("triple(0, 8, 0) at the end of 18", Made.set(18, 3, ONE_TO_EIGHT).triple(0, 8, 0), 8);
        e.due("triple(0, 8, 2) at the end of 18", Made.set(18, 3, ONE_TO_EIGHT).triple(0, 8, 2), 26);

        e.sentence(29, "Returns the number");
        e.due("triple(0, 8, 1) at the end of 18", Made.set(18, 3, ONE_TO_EIGHT).triple(0, 8, 1), 18);
    }

    private void tripleRefused() {
        e.sentence(29, "NO_SUCH if the problem does not have this difference, or there is no such arrangement");
        for (int what : new int[] {0, 1, 2, 3, -1, Integer.MIN_VALUE, Integer.MAX_VALUE}) {
            for (int d : Edges.outside(1, 4)) {
                e.unchanged("triple(0, " + d + ", " + what + ")", x -> x.triple(0, d, what), NO_SUCH);
                e.due("triple(2, " + d + ", " + what + ")", Made.busy().triple(2, d, what), NO_SUCH);
            }
            for (int number : Edges.outside(0, 1)) {
                e.unchanged("triple(" + number + ", 4, " + what + ")", x -> x.triple(number, 4, what), NO_SUCH);
            }
            e.due("triple(504, 8, " + what + ") of 504", Made.langford(1, 8, false).triple(504, 8, what), NO_SUCH);
            e.due("triple(0, 4, " + what + ") without arrangements", busyWithout().triple(0, 4, what), NO_SUCH);
        }
        for (int d = 0; d <= 18; d++) {
            e.due("triple(0, " + d + ", 0) of 9 alone", Made.set(10, 0x1FE, 1 << 9).triple(0, d, 0), d == 9 ? 9 : NO_SUCH);
        }

        e.sentence(29, "BAD_VALUE if what is not 0 to 2");
        for (int what : Edges.outside(0, 2)) {
            e.unchanged("triple(0, 1, " + what + ")", x -> x.triple(0, 1, what), BAD_VALUE);
            e.unchanged("triple(1, 4, " + what + ")", x -> x.triple(1, 4, what), BAD_VALUE);
        }
    }

    private void cover() {
        e.sentence(30, "Tells whether the triples of an arrangement are a cover");
        e.unchanged("cover(0)", x -> x.cover(0), 12);
        e.unchanged("cover(1)", x -> x.cover(1), 12);

        e.sentence(30, "Returns the greatest number in them if they are");
        e.due("1, 2, 3", new SpacedPairs().cover(0), 3);
        e.due("a hook", Made.langford(1, 2, true).cover(0), 7);
        e.due("17, 2, 19", Made.longest().cover(0), 19);
        e.due("the greatest of all, 26", Made.set(18, 3, ONE_TO_EIGHT).cover(0), 26);
        e.due("the last of 504", Made.langford(1, 8, false).cover(503), 24);
        e.due("a difference that is where a hole is in front", Made.set(5, 1, 0b1010).cover(0), 7);
        e.due("a difference that is where a hole is between", Made.set(5, 2, 0b10010).cover(0), 7);
        e.due("the greatest difference beyond all else", Made.set(18, 0x3FFFF & ~(1 << 8 | 1 << 7), 2).cover(0), 10);
    }

    private void coverNot() {
        e.sentence(30, "0 if not");
        e.unchanged(() -> Made.set(3, 2, 4), "cover(0) of 2, 2, 4", x -> x.cover(0), 0);
        e.due("3, 3, 6 beside 1, 4, 5", Made.set(4, 0, 0b1010).cover(0), 0);
        e.due("4 as the second number of 1, 4, 5", Made.set(5, 8, 0b10010).cover(0), 0);
        e.due("5 as the third number of 2, 3, 5", Made.set(7, 0b0111000, 0b100100).cover(0), 0);
        e.due("Langford's, where n + 1 is a difference", Made.langford(2, 3, false).cover(0), 0);
        e.due("the second of Langford's", Made.langford(2, 3, false).cover(1), 0);
        e.due("the last of Langford's 300", Made.langford(2, 8, false).cover(299), 0);
    }

    private void coverRefused() {
        e.sentence("Description", "The triples of an arrangement are a cover if no number comes twice in them (neither in two of them nor twice in one)");
        e.due("none comes twice", Made.set(3, 1, 2).cover(0), 4);
        e.due("twice in one", Made.set(3, 2, 4).cover(0), 0);
        e.due("in two of them", Made.set(5, 8, 0b10010).cover(0), 0);

        e.sentence(30, "- `number`: the number of the arrangement");
        e.due("cover(0) of 504", Made.langford(1, 8, false).cover(0), 24);
        e.due("cover(503) of 504", Made.langford(1, 8, false).cover(503), 24);

        e.sentence(30, "NO_SUCH if there is no such arrangement");
        for (int number : Edges.outside(0, 1)) {
            e.unchanged("cover(" + number + ")", x -> x.cover(number), NO_SUCH);
            e.unchanged(() -> Made.langford(2, 3, false), "cover(" + number + ") where none is", x -> x.cover(number), NO_SUCH);
        }
        e.due("cover(504) of 504", Made.langford(1, 8, false).cover(504), NO_SUCH);
        e.due("cover(0) without arrangements", busyWithout().cover(0), NO_SUCH);
    }

    private void hooks() {
        e.sentence(31, "Returns where a single hole can be: the positions p for which there are arrangements, without pins, of the differences"
            + " of the problem with the length 2 * (their number) + 1 and the only hole p");
        int[] skolem = {5, 10, 42, 341, 1365, 2730, 10922, 87381};
        int[] langford = {2, 10, 85, 341, 682, 2730, 21845, 87381};
        for (int n = 1; n <= 8; n++) {
            int chosen = n;
            e.due("hooks() of 1 to " + n, Made.langford(1, n, n % 2 == 0).hooks(), skolem[n - 1]);
            e.due("hooks() of " + n + " from 2", Made.langford(2, n, n % 2 == 0).hooks(), langford[n - 1]);
            e.unchanged(() -> Made.set(1, 1, (1 << chosen) - 1 << 1), "hooks() of 1 to " + n, SpacedPairs::hooks, skolem[n - 1]);
        }
        for (int length = 1; length <= 18; length++) {
            e.due("hooks() of 1 to 4 with the length " + length, Made.set(length, (1 << length) - 1, 0b11110).hooks(), 341);
        }
        e.due("hooks() with pins that leave nothing", Made.pinned(Made.pinned(Made.busy(), 0, 17), 8, 1).hooks(), 341);
        e.unchanged("hooks()", SpacedPairs::hooks, 341);
        e.unchanged(() -> Made.pinned(Made.busy(), 3, 9), "hooks() with a pin that leaves nothing", SpacedPairs::hooks, 341);
    }

    private void hooksAlone() {
        e.sentence(31, "Returns the set of positions");
        e.due("the first and the last of 3", new SpacedPairs().hooks(), 0b101);
        e.due("the middle of 3", Made.set(18, 0, 4).hooks(), 0b010);
        e.due("none of 3", Made.set(18, 0, 8).hooks(), 0);
        e.due("none of 3 for 17", Made.longest().hooks(), 0);
        e.due("none of 17", Made.langford(10, 8, false).hooks(), 0);
        e.due("the first and the last of 17", Made.langford(1, 8, false).hooks() & (1 << 16 | 1), 1 << 16 | 1);
        SpacedPairs x = Made.langford(1, 4, false);
        e.due("hooks() before count()", x.hooks(), 341);
        e.due("count() after hooks()", x.count(), 6);
        e.due("hooks() after count()", x.hooks(), 341);
        e.due("at(5, 0) after hooks()", x.at(5, 0), 4);
    }

    private void omissions() {
        e.sentence(32, "Returns which difference could be left out: those for which there are arrangements, without pins, of all others with"
            + " the length 2 * (their number) and no hole");
        int[] skolem = {0, 4, 4, 10, 42, 84, 84, 170};
        int[] langford = {0, 0, 0, 32, 80, 84, 168, 680};
        for (int n = 1; n <= 8; n++) {
            int chosen = n;
            e.due("omissions() of 1 to " + n, Made.langford(1, n, n % 2 == 0).omissions(), skolem[n - 1]);
            e.due("omissions() of " + n + " from 2", Made.langford(2, n, n % 2 == 0).omissions(), langford[n - 1]);
            e.unchanged(() -> Made.set(1, 1, (1 << chosen) - 1 << 1), "omissions() of 1 to " + n, SpacedPairs::omissions, skolem[n - 1]);
        }
        for (int length = 1; length <= 18; length++) {
            e.due("omissions() of 1 to 4 with the length " + length, Made.set(length, (1 << length) - 1, 0b11110).omissions(), 10);
        }
        e.unchanged("omissions()", SpacedPairs::omissions, 10);
        e.unchanged(() -> Made.pinned(Made.busy(), 3, 9), "omissions() with a pin that leaves nothing", SpacedPairs::omissions, 10);

        e.sentence(32, "Returns the set of differences");
        e.due("the greatest difference", Made.set(18, 0, 1 << 17 | 2).omissions(), 1 << 17);
        e.due("the least difference", Made.set(18, 0, 0b111 << 1 | 1 << 4).omissions() & 2, 2);
        e.due("none of two", Made.set(18, 0, 1 << 17 | 1 << 16).omissions(), 0);
        SpacedPairs x = Made.langford(1, 4, false);
        e.due("omissions() before count()", x.omissions(), 10);
        e.due("count() after omissions()", x.count(), 6);
        e.due("omissions() after count()", x.omissions(), 10);
        e.due("at(5, 0) after omissions()", x.at(5, 0), 4);
    }

    private void omissionsAlone() {
        e.sentence(32, "0 if the problem has only one difference");
        for (int d = 1; d <= 17; d++) {
            int alone = 1 << d;
            e.unchanged(() -> Made.set(18, 0, alone), "omissions() of " + d, SpacedPairs::omissions, 0);
            e.unchanged(() -> Made.set(2, 3, alone), "omissions() of " + d + " among holes", SpacedPairs::omissions, 0);
        }
        e.due("omissions() of two", Made.set(18, 0, 6).omissions(), 4);
    }
}
