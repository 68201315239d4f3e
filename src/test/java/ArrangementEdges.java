/** The edges of the promises 10 to 15: count, at, start, frequency, options, forced. */
final class ArrangementEdges {
    private static final int NONE = SpacedPairs.NONE;
    private static final int NO_SUCH = SpacedPairs.NO_SUCH;
    private static final int BAD_VALUE = SpacedPairs.BAD_VALUE;
    /** The differences that have the most arrangements of all, 512, with the length 16. */
    private static final int MOST = 0x4FE;

    private final Edges e;

    private ArrangementEdges(Edges edges) {
        e = edges;
    }

    static void test(Edges edges) {
        ArrangementEdges t = new ArrangementEdges(edges);
        t.count();
        t.order();
        t.at();
        t.atRefused();
        t.start();
        t.startRefused();
        t.frequency();
        t.frequencyRefused();
        t.options();
        t.optionsRefused();
        t.forced();
        t.forcedNone();
    }

    private void count() {
        e.sentence(10, "Returns the number of arrangements");
        e.due("none", Made.langford(1, 2, false).count(), 0);
        e.due("one", new SpacedPairs().count(), 1);
        e.due("two", Made.langford(2, 3, false).count(), 2);
        e.due("the most that there are", Made.set(16, 0, MOST).count(), 512);
        e.due("the most with the greatest length", Made.set(18, 3, MOST).count(), 512);
        e.due("the longest row", Made.longest().count(), 1);
        e.due("a row that is too short", Made.set(17, 0x1FFFF & ~(1 << 16 | 1), 1 << 17).count(), 0);
        e.due("one position", Made.set(1, 0, 2).count(), 0);
        e.due("one position, a hole", Made.set(1, 1, 2).count(), 0);
        e.due("holes alone", Made.set(18, 0x3FFFF, 2).count(), 0);
        e.due("differences that are too great", Made.langford(10, 8, false).count(), 0);
        e.unchanged("count()", SpacedPairs::count, 2);

        e.sentence(10, "Returns the number");
        SpacedPairs x = Made.langford(1, 4, false);
        int[] withFirst = {6, 2, 1, 1, 2, 0};
        for (int d = 0; d <= 5; d++) {
            x.pin(0, d);
            e.due("count() with the pin " + d, x.count(), withFirst[d]);
        }
        x.pin(0, 0);
        e.due("count() without it", x.count(), 6);
        for (int p = 0; p < 8; p++) {
            x.pin(p, "42324311".charAt(p) - '0');
        }
        e.due("count() with all pins of a row", x.count(), 1);
        x.pin(7, 4);
        e.due("count() with one of them changed", x.count(), 0);
    }

    private void order() {
        e.sentence("Description", "The arrangements are numbered from 0 in the lexicographic order of their rows");
        SpacedPairs x = Made.langford(1, 4, false);
        String[] rows = {"1 1 3 4 2 3 2 4", "1 1 4 2 3 2 4 3", "2 3 2 4 3 1 1 4",
            "3 4 2 3 2 4 1 1", "4 1 1 3 4 2 3 2", "4 2 3 2 4 3 1 1"};
        for (int i = 0; i < rows.length; i++) {
            e.dueText("the row " + i, Checks.rowOf(x, i), rows[i]);
        }
        x = Made.set(13, 2546, 1 << 7 | 1 << 9 | 1 << 10);
        e.due("count()", x.count(), 2);
        e.dueText("9 comes before 10", Checks.rowOf(x, 0), "9 0 10 7 0 0 0 0 0 9 7 0 10");
        e.dueText("10 comes after 9", Checks.rowOf(x, 1), "10 0 7 9 0 0 0 0 0 7 10 0 9");
        x = Made.set(16, 0, MOST);
        e.dueText("the first of 512", Checks.rowOf(x, 0), "1 1 2 6 2 10 5 7 4 6 3 5 4 3 7 10");
        e.dueText("the last of 512", Checks.rowOf(x, 511), "10 7 5 1 1 4 6 5 7 4 10 3 6 2 3 2");
        e.due("at(512, 0) of 512", x.at(512, 0), NONE);
    }

    private void at() {
        e.sentence(11, "Returns what an arrangement has at a position");
        e.dueText("the arrangement 0", Checks.rowOf(Made.busy(), 0), "4 1 1 3 4 2 3 2");
        e.dueText("the arrangement 1", Checks.rowOf(Made.busy(), 1), "4 2 3 2 4 3 1 1");

        e.sentence(11, "- `number`: the number of the arrangement");
        e.due("at(0, 0)", Made.langford(1, 8, false).at(0, 0), 1);
        e.due("at(503, 0)", Made.langford(1, 8, false).at(503, 0), 8);

        e.sentence(11, "- `position`: the position");
        e.due("at(0, 0) of the longest", Made.longest().at(0, 0), 17);
        e.due("at(0, 17) of the longest", Made.longest().at(0, 17), 17);

        e.sentence(11, "Returns the difference, 0 at a hole");
        e.due("at(0, 1) of the longest", Made.longest().at(0, 1), 0);
        e.due("at(0, 16) of the longest", Made.longest().at(0, 16), 0);
        e.due("at(0, 0) of a hole in front", Made.set(3, 1, 2).at(0, 0), 0);
        e.due("at(0, 1) behind it", Made.set(3, 1, 2).at(0, 1), 1);
        e.due("at(0, 2) of a hole at the end", Made.set(3, 4, 2).at(0, 2), 0);
    }

    private void atRefused() {
        e.sentence(11, "NO_SUCH if there is no such position");
        for (int p : Edges.outside(0, 7)) {
            for (int number : new int[] {0, 1, 2, -1, Integer.MIN_VALUE, Integer.MAX_VALUE}) {
                e.unchanged("at(" + number + ", " + p + ")", x -> x.at(number, p), NO_SUCH);
            }
        }
        e.due("at(0, 18) of the longest", Made.longest().at(0, 18), NO_SUCH);
        e.due("at(0, -1) of the longest", Made.longest().at(0, -1), NO_SUCH);
        e.due("at(0, 8) without arrangements", Made.pinned(Made.busy(), 0, 9).at(0, 8), NO_SUCH);
        SpacedPairs x = Made.langford(1, 4, false);
        x.set(2, 0, 2);
        e.due("a position that there was", x.at(0, 7), NO_SUCH);

        e.sentence(11, "NONE if there is no such arrangement");
        for (int number : Edges.outside(0, 1)) {
            e.unchanged("at(" + number + ", 0)", y -> y.at(number, 0), NONE);
        }
        for (int number : Edges.outside(0, 511)) {
            e.due("at(" + number + ", 15) of 512", Made.set(16, 0, MOST).at(number, 15), NONE);
        }
        e.due("at(0, 7) without arrangements", Made.pinned(Made.busy(), 0, 9).at(0, 7), NONE);
        x = Made.langford(1, 4, false);
        e.due("at(5, 0) before the pin", x.at(5, 0), 4);
        e.due("at(5, 0) with it", Made.pinned(x, 0, 4).at(5, 0), NONE);
        e.due("at(1, 1) with it", x.at(1, 1), 2);
    }

    private void start() {
        e.sentence(12, "Returns the start of a difference in an arrangement");
        int[] starts = {-1, 1, 5, 3, 0};
        for (int d = 1; d <= 4; d++) {
            e.due("start(0, " + d + ")", Made.busy().start(0, d), starts[d]);
        }

        e.sentence(12, "- `number`: the number of the arrangement");
        e.due("start(0, 1) of 504", Made.langford(1, 8, false).start(0, 1), 0);
        e.due("start(503, 8) of 504", Made.langford(1, 8, false).start(503, 8), 0);

        e.sentence(12, "- `difference`: one of the problem");
        e.due("start(0, 1) of 1", new SpacedPairs().start(0, 1), 0);
        e.due("start(0, 17) of 17", Made.longest().start(0, 17), 0);

        e.sentence(12, "Returns the start");
        e.due("the least start", Made.set(18, 0x3FFFC, 2).start(0, 1), 0);
        e.due("the greatest start", Made.set(18, 0xFFFF, 2).start(0, 1), 16);
    }

    private void startRefused() {
        e.sentence(12, "NO_SUCH if the problem does not have this difference");
        for (int d : Edges.outside(1, 4)) {
            for (int number : new int[] {0, 1, 2, -1, Integer.MIN_VALUE, Integer.MAX_VALUE}) {
                e.unchanged("start(" + number + ", " + d + ")", x -> x.start(number, d), NO_SUCH);
            }
        }
        for (int d = 0; d <= 18; d++) {
            e.due("start(0, " + d + ") of 9 alone", Made.set(10, 0x1FE, 1 << 9).start(0, d), d == 9 ? 0 : NO_SUCH);
        }
        e.due("start(0, 16) of the longest", Made.longest().start(0, 16), NO_SUCH);
        e.due("start(0, 18) of the longest", Made.longest().start(0, 18), NO_SUCH);
        e.due("start(0, 5) without arrangements", Made.pinned(Made.busy(), 0, 9).start(0, 5), NO_SUCH);
        SpacedPairs x = Made.langford(1, 4, false);
        e.due("start(0, 4) of 1 to 4", x.start(0, 4), 3);
        x.set(2, 0, 2);
        e.due("a difference that there was", x.start(0, 4), NO_SUCH);

        e.sentence(12, "NONE if there is no such arrangement");
        for (int number : Edges.outside(0, 1)) {
            e.unchanged("start(" + number + ", 4)", y -> y.start(number, 4), NONE);
        }
        for (int number : Edges.outside(0, 511)) {
            e.due("start(" + number + ", 10) of 512", Made.set(16, 0, MOST).start(number, 10), NONE);
        }
        e.due("start(0, 4) without arrangements", Made.pinned(Made.busy(), 0, 9).start(0, 4), NONE);
    }

    private void frequency() {
        e.sentence(13, "Counts the arrangements that have a difference at a position");
        e.due("frequency(0, 4) of all", Made.busy().frequency(0, 4), 2);
        e.due("frequency(1, 1) of one", Made.busy().frequency(1, 1), 1);
        e.due("frequency(0, 1) of none", Made.busy().frequency(0, 1), 0);
        e.due("frequency(0, 1) without arrangements", Made.langford(1, 2, false).frequency(0, 1), 0);
        SpacedPairs x = Made.langford(1, 8, false);
        int sum = 0;
        for (int d = 0; d <= 17; d++) {
            sum += x.frequency(15, d);
        }
        e.due("all frequencies at the last position", sum, 504);

        e.sentence(13, "- `position`: the position");
        e.due("frequency(0, 17) of the longest", Made.longest().frequency(0, 17), 1);
        e.due("frequency(17, 17) of the longest", Made.longest().frequency(17, 17), 1);

        e.sentence(13, "- `difference`: 0 to 17");
        e.due("frequency(7, 0)", Made.busy().frequency(7, 0), 0);
        e.due("frequency(7, 1)", Made.busy().frequency(7, 1), 1);
        e.due("frequency(7, 17)", Made.busy().frequency(7, 17), 0);

        e.sentence(13, "0 stands for a hole");
        e.due("frequency(1, 0) at a hole", Made.longest().frequency(1, 0), 1);
        e.due("frequency(1, 17) at a hole", Made.longest().frequency(1, 17), 0);
        e.due("frequency(17, 0) beside the holes", Made.longest().frequency(17, 0), 0);
        e.due("frequency(5, 0) at a hole of two", Made.langford(1, 3, true).frequency(5, 0), 2);
        e.due("frequency(1, 0) with a pin at the hole", Made.pinned(Made.longest(), 1, 17).frequency(1, 0), 0);

        e.sentence(13, "Returns their number");
        e.due("none", Made.set(16, 0, MOST).frequency(0, 9), 0);
        e.due("all that there are", Made.set(18, 3, MOST).frequency(0, 0), 512);
    }

    private void frequencyRefused() {
        e.sentence(13, "NO_SUCH if there is no such position");
        for (int p : Edges.outside(0, 7)) {
            for (int d : new int[] {0, 4, 17, -1, 18, Integer.MIN_VALUE, Integer.MAX_VALUE}) {
                e.unchanged("frequency(" + p + ", " + d + ")", x -> x.frequency(p, d), NO_SUCH);
            }
        }
        e.due("frequency(18, 0) of the longest", Made.longest().frequency(18, 0), NO_SUCH);
        e.due("frequency(8, 1) without arrangements", Made.pinned(Made.busy(), 0, 9).frequency(8, 1), NO_SUCH);

        e.sentence(13, "BAD_VALUE if difference is out of range");
        for (int d : Edges.outside(0, 17)) {
            e.unchanged("frequency(0, " + d + ")", x -> x.frequency(0, d), BAD_VALUE);
            e.unchanged("frequency(7, " + d + ")", x -> x.frequency(7, d), BAD_VALUE);
        }
        e.due("frequency(0, 18) without arrangements", Made.pinned(Made.busy(), 0, 9).frequency(0, 18), BAD_VALUE);
    }

    private void options() {
        e.sentence(14, "Returns the differences that come at a position in some arrangement");
        int[] options = {0b10000, 0b00110, 0b01010, 0b01100, 0b10000, 0b01100, 0b01010, 0b00110};
        for (int p = 0; p < options.length; p++) {
            e.due("options(" + p + ")", Made.busy().options(p), options[p]);
        }

        e.sentence(14, "- `position`: the position");
        e.due("options(0) of the longest", Made.longest().options(0), 1 << 17);
        e.due("options(17) of the longest", Made.longest().options(17), 1 << 17);

        e.sentence(14, "Returns the set of them (also empty)");
        e.due("options(0) of all", Made.langford(1, 8, false).options(0), 0x1FE);
        e.due("options(1) at a hole", Made.longest().options(1), 0);
        e.due("options(0) without arrangements", Made.langford(1, 2, false).options(0), 0);
        e.due("options(0) when a pin leaves none", Made.pinned(Made.busy(), 0, 9).options(0), 0);
    }

    private void optionsRefused() {
        e.sentence(14, "NO_SUCH if there is no such position");
        for (int p : Edges.outside(0, 7)) {
            e.unchanged("options(" + p + ")", x -> x.options(p), NO_SUCH);
        }
        e.due("options(18) of the longest", Made.longest().options(18), NO_SUCH);
        e.due("options(-1) of the longest", Made.longest().options(-1), NO_SUCH);
        e.due("options(8) without arrangements", Made.pinned(Made.busy(), 0, 9).options(8), NO_SUCH);
    }

    private void forced() {
        e.sentence(15, "Returns the positions at which all arrangements have the same difference");
        e.due("forced() of two", Made.busy().forced(), 0b00010001);
        e.due("forced() of none in common", Made.langford(1, 4, false).forced(), 0);
        e.unchanged("forced()", SpacedPairs::forced, 0b00010001);
        SpacedPairs x = Made.pinned(Made.busy(), 1, 2);
        e.due("forced() of one that is left", x.forced(), 0xFF);
        x.pin(1, 0);
        e.due("forced() of two again", x.forced(), 0b00010001);

        e.sentence(15, "Returns the set of them (holes not included)");
        e.due("forced() of the longest", Made.longest().forced(), 1 << 17 | 1);
        e.due("forced() with a hole in front", Made.set(3, 1, 2).forced(), 0b110);
        e.due("forced() with a hole behind", Made.set(3, 4, 2).forced(), 0b011);
        e.due("forced() with all positions", Made.set(18, 3, 0x1FE).forced(), 0);
    }

    private void forcedNone() {
        e.sentence(15, "0 if there are no arrangements");
        e.due("forced() without arrangements", Made.langford(1, 2, false).forced(), 0);
        e.due("forced() when a pin leaves none", Made.pinned(Made.busy(), 0, 9).forced(), 0);
        e.due("forced() of holes alone", Made.set(18, 0x3FFFF, 2).forced(), 0);
    }
}
