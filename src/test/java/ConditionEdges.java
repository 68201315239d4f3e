/** The edges of the promises 7 to 9: startSum, slack, starts. */
final class ConditionEdges {
    private static final int NONE = SpacedPairs.NONE;
    private static final int NO_SUCH = SpacedPairs.NO_SUCH;
    private static final int ONE_TO_EIGHT = 0xFF << 1;
    private static final int TEN_TO_SEVENTEEN = 0xFF << 10;

    private final Edges e;

    private ConditionEdges(Edges edges) {
        e = edges;
    }

    static void test(Edges edges) {
        ConditionEdges t = new ConditionEdges(edges);
        t.startSum();
        t.startSumNone();
        t.slack();
        t.slackNone();
        t.starts();
        t.startsEnds();
        t.startsPins();
        t.startsRefused();
    }

    private void startSum() {
        e.sentence(7, "Returns the sum that the starts of all differences have in each arrangement: the sum of the free positions"
            + " minus that of the differences, divided by 2");
        SpacedPairs x = Made.langford(1, 4, false);
        for (int number = 0; number < 6; number++) {
            int sum = 0;
            for (int d = 1; d <= 4; d++) {
                sum += x.start(number, d);
            }
            e.due("the starts of the arrangement " + number + ", as startSum()", x.startSum(), sum);
        }
        e.due("startSum() where a pin leaves no arrangement", Made.pinned(x, 0, 17).startSum(), 9);
        e.unchanged("startSum()", SpacedPairs::startSum, 9);

        e.sentence(7, "Returns the sum");
        e.due("the sum 0", new SpacedPairs().startSum(), 0);
        e.due("the sum 1", Made.set(3, 1, 2).startSum(), 1);
        e.due("the greatest sum of one", Made.set(18, 0xFFFF, 2).startSum(), 16);
        e.due("the greatest sum", Made.set(18, 3, ONE_TO_EIGHT).startSum(), (152 - 36) / 2);
        e.due("the sum of the greatest differences", Made.set(16, 0, TEN_TO_SEVENTEEN).startSum(), (120 - 108) / 2);
        e.due("the least sum", Made.set(2, 0, 1 << 17).startSum(), -8);
        e.due("the sum -1", Made.set(2, 0, 1 << 3).startSum(), -1);
    }

    private void startSumNone() {
        e.sentence(7, "NONE if the number of free positions is not twice that of the differences, or this is not an integer");
        e.due("one position for one difference", Made.set(1, 0, 2).startSum(), NONE);
        e.due("three for one", Made.set(3, 0, 2).startSum(), NONE);
        e.due("two of three for one", Made.set(3, 4, 2).startSum(), 0);
        e.due("no free position", Made.set(2, 3, 2).startSum(), NONE);
        e.due("no free position of 18", Made.set(18, 0x3FFFF, 1 << 17).startSum(), NONE);
        e.due("15 for eight", Made.set(15, 0, ONE_TO_EIGHT).startSum(), NONE);
        e.due("16 for eight", Made.set(16, 0, ONE_TO_EIGHT).startSum(), (120 - 36) / 2);
        e.due("17 for eight", Made.set(17, 0, ONE_TO_EIGHT).startSum(), NONE);
        e.due("18 for eight", Made.set(18, 0, ONE_TO_EIGHT).startSum(), NONE);
        e.due("16 of 18 for eight", Made.set(18, 1 << 17 | 1 << 14, ONE_TO_EIGHT).startSum(), (122 - 36) / 2);
        e.due("16 of 18, and half an integer", Made.set(18, 1 << 17 | 1 << 15, ONE_TO_EIGHT).startSum(), NONE);
        e.due("three halves", Made.langford(1, 2, false).startSum(), NONE);
        e.due("a half below 0", Made.set(2, 0, 1 << 2).startSum(), NONE);
        e.due("the least half below 0", Made.set(2, 0, 1 << 16).startSum(), NONE);
        e.due("neither an integer nor as many positions", Made.set(3, 0, 4).startSum(), NONE);
        e.unchanged(() -> Made.saying(Made.set(3, 0, 2), "x"), "startSum()", SpacedPairs::startSum, NONE);
    }

    private void slack() {
        e.sentence(8, "Returns how much the differences fall short of the greatest sum that is possible: the sum of the greater half"
            + " of the free positions minus that of the lesser half, minus the sum of the differences");
        e.due("six short", Made.langford(1, 4, false).slack(), 1000 + 22 - 6 - 10);
        e.due("a hole in the lesser half", Made.set(9, 2, 0b11110).slack(), 1000 + 26 - 9 - 10);
        e.due("a hole between the halves", Made.set(9, 1 << 4, 0b11110).slack(), 1000 + 26 - 6 - 10);
        e.due("a hole in the greater half", Made.set(9, 1 << 7, 0b11110).slack(), 1000 + 23 - 6 - 10);
        e.due("a hole in front", Made.set(9, 1, 0b11110).slack(), 1006);
        e.due("a hole behind", Made.set(9, 1 << 8, 0b11110).slack(), 1006);
        e.due("slack() where a pin leaves no arrangement", Made.pinned(Made.langford(1, 4, false), 0, 17).slack(), 1006);
        e.unchanged("slack()", SpacedPairs::slack, 1006);

        e.sentence(8, "Returns the number plus 1000");
        e.due("nothing short", new SpacedPairs().slack(), 1000);
        e.due("one short", Made.set(3, 2, 2).slack(), 1001);
        e.due("one too great", Made.set(2, 0, 4).slack(), 999);
        e.due("the most short", Made.set(18, 3 << 8, ONE_TO_EIGHT).slack(), 1000 + 108 - 28 - 36);
        e.due("the most too great", Made.set(16, 0, TEN_TO_SEVENTEEN).slack(), 1000 + 92 - 28 - 108);
        e.due("a start sum that is no integer", Made.langford(1, 2, false).slack(), 1000 + 5 - 1 - 3);
        e.due("the longest row", Made.longest().slack(), 1000);
    }

    private void slackNone() {
        e.sentence(8, "NONE if the number of free positions is not twice that of the differences");
        e.due("one position for one difference", Made.set(1, 0, 2).slack(), NONE);
        e.due("three for one", Made.set(3, 0, 2).slack(), NONE);
        e.due("two of three for one", Made.set(3, 4, 2).slack(), 1000);
        e.due("no free position", Made.set(18, 0x3FFFF, 1 << 17).slack(), NONE);
        e.due("15 for eight", Made.set(15, 0, ONE_TO_EIGHT).slack(), NONE);
        e.due("16 for eight", Made.set(16, 0, ONE_TO_EIGHT).slack(), 1000 + 64 - 36);
        e.due("17 for eight", Made.set(17, 0, ONE_TO_EIGHT).slack(), NONE);
        e.unchanged(() -> Made.saying(Made.set(3, 0, 2), "x"), "slack()", SpacedPairs::slack, NONE);
    }

    private void starts() {
        e.sentence(9, "Returns the positions at which a difference can begin by itself: this position and the one at its distance"
            + " behind it are free, and neither has a pin with another difference");
        SpacedPairs x = Made.set(8, 1 << 3, 0b10110);
        e.due("starts(1) around a hole", x.starts(1), 0b1110011);
        e.due("starts(2) around a hole", x.starts(2), 0b0110101);
        e.due("starts(4) around a hole", x.starts(4), 0b0000111);
        e.due("starts(1) with too many positions", x.count(), 0);
        e.unchanged("starts(4)", y -> y.starts(4), 0b1111);
    }

    private void startsEnds() {
        e.sentence(9, "Returns the set of starts");
        for (int d = 1; d <= 17; d++) {
            for (int length = 1; length <= 18; length++) {
                int starts = d < length ? (1 << (length - d)) - 1 : 0;
                e.due("starts(" + d + ") in " + length, Made.set(length, 0, 1 << d).starts(d), starts);
            }
            e.due("starts(" + d + ") among holes", Made.set(18, 0x3FFFF, 1 << d).starts(d), 0);
        }
        e.due("starts(17) with holes between", Made.longest().starts(17), 1);
        e.due("starts(17) with a hole at its end", Made.set(18, 1 << 17, 1 << 17).starts(17), 0);
        e.due("starts(17) with a hole at its start", Made.set(18, 1, 1 << 17).starts(17), 0);
    }

    private void startsPins() {
        e.sentence(9, "- `difference`: one of the problem");
        SpacedPairs x = Made.set(6, 0, 0b1010);
        x.pin(2, 3);
        e.due("starts(1) beside a pin with another", x.starts(1), 0b11001);
        e.due("starts(3) with a pin of its own", x.starts(3), 0b111);
        x.pin(2, 17);
        e.due("starts(3) with a pin that no difference has at its start", x.starts(3), 0b011);
        x.pin(2, 0);
        x.pin(5, 1);
        e.due("starts(3) with a pin at its end", x.starts(3), 0b011);
        e.due("starts(1) with a pin of its own at the end", x.starts(1), 0b11111);
        x.pin(5, 0);
        e.due("starts(3) without pins", x.starts(3), 0b111);
        x = Made.pinned(Made.set(6, 4, 0b1010), 2, 3);
        e.due("starts(3) with its pin at a hole", x.starts(3), 0b011);
        for (int p = 0; p < 18; p++) {
            e.due("starts(17) with a pin at " + p, Made.pinned(Made.set(18, 0, 1 << 17), p, 1).starts(17), p == 0 || p == 17 ? 0 : 1);
            e.due("starts(17) with its pin at " + p, Made.pinned(Made.set(18, 0, 1 << 17), p, 17).starts(17), 1);
        }
    }

    private void startsRefused() {
        e.sentence(9, "NO_SUCH if the problem does not have this difference");
        for (int d : Edges.outside(1, 4)) {
            e.unchanged("starts(" + d + ")", x -> x.starts(d), NO_SUCH);
        }
        for (int d : new int[] {0, 2, 16, 18, 17 + 32, 17 - 32, 1 + 32, 1 - 32, Integer.MIN_VALUE, Integer.MAX_VALUE}) {
            e.unchanged(() -> Made.set(18, 0, 1 << 17 | 2), "starts(" + d + ")", x -> x.starts(d), NO_SUCH);
        }
        for (int d = 0; d <= 18; d++) {
            e.due("starts(" + d + ") of 9 alone", Made.set(18, 0, 1 << 9).starts(d), d == 9 ? 0x1FF : NO_SUCH);
        }
    }
}
