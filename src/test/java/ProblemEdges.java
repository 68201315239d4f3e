/** The edges of the promises 1 to 6: a new object, set, langford, near, pin, problem. */
final class ProblemEdges {
    private static final int BAD_VALUE = SpacedPairs.BAD_VALUE;
    private static final int NO_SUCH = SpacedPairs.NO_SUCH;
    private static final int ALL_DIFFERENCES = 0x3FFFE;

    private final Edges e;

    private ProblemEdges(Edges edges) {
        e = edges;
    }

    static void test(Edges edges) {
        ProblemEdges t = new ProblemEdges(edges);
        t.newObject();
        t.set();
        t.setLength();
        t.setHoles();
        t.setDifferences();
        t.setRefused();
        t.langford();
        t.langfordLength();
        t.langfordRanges();
        t.near();
        t.nearRanges();
        t.pin();
        t.pinPosition();
        t.pinDifference();
        t.problem();
    }

    private void duePosed(String call, SpacedPairs x, int length, int holes, int differences) {
        e.due("length after " + call, x.problem(0), length);
        e.due("holes after " + call, x.problem(1), holes);
        e.due("differences after " + call, x.problem(2), differences);
    }

    private void dueNoPins(String call, SpacedPairs x) {
        e.due("pins after " + call, x.problem(3), 0);
        for (int p = 0; p < x.problem(0); p++) {
            e.due("pin(" + p + ", 0) after " + call, x.pin(p, 0), 0);
        }
    }

    private void newObject() {
        e.sentence(1, "Creates the problem described above");
        dueNew("SpacedPairs()");
        Made.busy();
        dueNew("SpacedPairs() after another object was used");

        e.sentence("Description", "Initially the length is 2, there are no holes, and the only difference is 1");
        SpacedPairs x = new SpacedPairs();
        duePosed("SpacedPairs()", x, 2, 0, 1 << 1);
        e.due("the last position", x.at(0, 1), 1);
        e.due("the first that is none", x.at(0, 2), NO_SUCH);

        e.sentence("Description", "initially there are none");
        dueNoPins("SpacedPairs()", new SpacedPairs());

        e.sentence("Description", "A position has at most one pin");
        x = Made.pinned(Made.pinned(new SpacedPairs(), 0, 2), 0, 1);
        e.due("count() when the second pin took the first one's place", x.count(), 1);
        e.due("pin(0, 0)", x.pin(0, 0), 1);
        e.due("pin(0, 0) again", x.pin(0, 0), 0);
    }

    private void dueNew(String call) {
        e.dueText("what " + call + " made", Witness.of(new SpacedPairs()),
            "pad \"\" of 0 2 0 2 0 2 count 1 (1 1) pins 0 0 | slot 0: -5 | slot 1: -5");
    }

    private void set() {
        e.sentence(2, "Sets the problem");
        SpacedPairs x = Made.busy();
        x.set(5, 0b01000, 0b110);
        duePosed("set(5, 8, 6)", x, 5, 0b01000, 0b110);
        e.dueText("the row after it", Checks.rowOf(x, 0), "1 1 2 0 2");
        e.dueText("the pad after it", Checks.padOf(x), "4?.!");
        e.due("restore(0) after it", x.restore(0), 7);
        e.due("restore(1) after it", x.restore(1), SpacedPairs.NOT_POSSIBLE);

        e.sentence(2, "there are no pins then");
        x = Made.busy();
        x.set(8, 0, 0b11110);
        dueNoPins("set() of the same problem", x);
        e.due("count() after it", x.count(), 6);
        x.pin(7, 9);
        x.set(7, 0, 0b11110);
        x.set(8, 0, 0b11110);
        dueNoPins("set() of a shorter and again of a longer one", x);

        e.sentence(2, "Returns the number of differences");
        for (int n = 1; n <= 8; n++) {
            e.due("set() with " + n, new SpacedPairs().set(3, 7, (1 << n) - 1 << 1), n);
            e.due("set() with the greatest " + n, new SpacedPairs().set(18, 0, (1 << n) - 1 << (18 - n)), n);
        }
        e.due("set() with every other", new SpacedPairs().set(1, 0, 0b010101010101010100), 8);
    }

    private void setLength() {
        e.sentence(2, "- `length`: 1 to 18");
        for (int length : new int[] {1, 2, 17, 18}) {
            e.due("set(" + length + ", 0, 2)", Made.set(length, 0, 2).problem(0), length);
        }
        for (int length : Edges.outside(1, 18)) {
            e.unchanged("set(" + length + ", 0, 2)", x -> x.set(length, 0, 2), BAD_VALUE);
        }
    }

    private void setHoles() {
        e.sentence(2, "- `holes`: the set of holes, with positions less than length");
        for (int length = 1; length <= 18; length++) {
            int chosen = length;
            for (int holes : new int[] {0, 1, 1 << (length - 1), (1 << length) - 1}) {
                e.due("holes of length " + length, Made.set(length, holes, 2).problem(1), holes);
            }
            for (int hole = length; hole <= 31; hole++) {
                int holes = 1 << hole;
                e.unchanged("set(" + length + ", " + holes + ", 2)", x -> x.set(chosen, holes, 2), BAD_VALUE);
            }
            for (int holes : new int[] {-1, (1 << length) + 1, Integer.MAX_VALUE, Integer.MIN_VALUE + 1}) {
                e.unchanged("set(" + length + ", " + holes + ", 2)", x -> x.set(chosen, holes, 2), BAD_VALUE);
            }
        }
    }

    private void setDifferences() {
        e.sentence(2, "- `differences`: the set of differences, 1 to 8 of them, from 1 to 17");
        for (int d = 1; d <= 17; d++) {
            e.due("set() with " + d + " alone", Made.set(18, 0, 1 << d).problem(2), 1 << d);
        }
        for (int differences : new int[] {0xFF << 1, 0xFF << 10, 0x2007E | 1 << 16}) {
            e.due("set(18, 0, " + differences + ")", Made.set(18, 0, differences).problem(2), differences);
        }
        for (int differences : new int[] {0, 1, 3, 0x1FF, 0x1FF << 1, 0x1FF << 9, 0x1FE | 1 << 17, ALL_DIFFERENCES,
            ALL_DIFFERENCES | 1, -1, -2, Integer.MAX_VALUE, Integer.MIN_VALUE, Integer.MIN_VALUE + 2}) {
            e.unchanged("set(18, 0, " + differences + ")", x -> x.set(18, 0, differences), BAD_VALUE);
        }
        for (int d = 18; d <= 31; d++) {
            int alone = 1 << d;
            e.unchanged("set(18, 0, " + alone + ")", x -> x.set(18, 0, alone), BAD_VALUE);
            e.unchanged("set(18, 0, 2 and " + alone + ")", x -> x.set(18, 0, 2 | alone), BAD_VALUE);
        }
    }

    private void setRefused() {
        e.sentence(2, "BAD_VALUE if an argument is out of range");
        int[][] wrong = {{0, 0, 2}, {19, 0, 2}, {8, 1 << 8, 2}, {8, 0, 0}, {0, 1, 2}, {0, 0, 0}, {8, 1 << 8, 1},
            {19, 1 << 19, 1 << 18}, {Integer.MIN_VALUE, -1, -1}, {Integer.MAX_VALUE, Integer.MAX_VALUE, Integer.MAX_VALUE}};
        for (int[] w : wrong) {
            e.unchanged("set(" + w[0] + ", " + w[1] + ", " + w[2] + ")", x -> x.set(w[0], w[1], w[2]), BAD_VALUE);
        }
    }

    private void langford() {
        e.sentence(3, "Sets a problem with successive differences");
        for (int first = 1; first <= 10; first++) {
            for (int n = 1; n <= 8; n++) {
                int differences = (1 << n) - 1 << first;
                e.due("langford(" + first + ", " + n + ", false)", Made.langford(first, n, false).problem(2), differences);
                e.due("langford(" + first + ", " + n + ", true)", Made.langford(first, n, true).problem(2), differences);
            }
        }

        e.sentence(3, "there are no pins then");
        for (boolean hooked : new boolean[] {false, true}) {
            SpacedPairs x = Made.busy();
            x.langford(1, 4, hooked);
            dueNoPins("langford(1, 4, " + hooked + ")", x);
            x.pin(7, 9);
            x.langford(1, 1, hooked);
            x.langford(1, 4, hooked);
            dueNoPins("a shorter and again a longer one", x);
        }
    }

    private void langfordLength() {
        e.sentence(3, "The length is twice their number");
        for (int n = 1; n <= 8; n++) {
            SpacedPairs x = Made.langford(3, n, false);
            duePosed("langford(3, " + n + ", false)", x, 2 * n, 0, (1 << n) - 1 << 3);
        }

        e.sentence(3, "if it is hooked, it is one more, and the position length - 2 is a hole");
        for (int n = 1; n <= 8; n++) {
            SpacedPairs x = Made.langford(3, n, true);
            duePosed("langford(3, " + n + ", true)", x, 2 * n + 1, 1 << (2 * n - 1), (1 << n) - 1 << 3);
        }

        e.sentence(3, "- `hooked`: whether it is hooked");
        SpacedPairs x = Made.langford(2, 8, true);
        x.langford(2, 8, false);
        duePosed("true, then false", x, 16, 0, 0x3FC);
        x.langford(2, 8, true);
        duePosed("true again", x, 17, 1 << 15, 0x3FC);

        e.sentence(3, "Returns the length");
        for (int n = 1; n <= 8; n++) {
            e.due("langford(10, " + n + ", false)", x.langford(10, n, false), 2 * n);
            e.due("langford(1, " + n + ", true)", x.langford(1, n, true), 2 * n + 1);
        }
    }

    private void langfordRefused(int first, int count) {
        for (boolean hooked : new boolean[] {false, true}) {
            e.unchanged("langford(" + first + ", " + count + ", " + hooked + ")", x -> x.langford(first, count, hooked), BAD_VALUE);
        }
    }

    private void langfordRanges() {
        e.sentence(3, "- `first`: the least difference, 1 to 10");
        e.due("langford(1, 8, false)", Made.langford(1, 8, false).problem(2), 0xFF << 1);
        e.due("langford(10, 8, false)", Made.langford(10, 8, false).problem(2), 0xFF << 10);
        for (int first : Edges.outside(1, 10)) {
            langfordRefused(first, 1);
            langfordRefused(first, 8);
        }

        e.sentence(3, "- `count`: number of differences, 1 to 8");
        e.due("langford(1, 1, false)", Made.langford(1, 1, false).problem(2), 2);
        e.due("langford(1, 8, true)", Made.langford(1, 8, true).problem(2), 0xFF << 1);
        for (int count : Edges.outside(1, 8)) {
            langfordRefused(1, count);
            langfordRefused(10, count);
        }

        e.sentence(3, "BAD_VALUE if an argument is out of range");
        int[][] wrong = {{0, 1}, {11, 8}, {1, 0}, {10, 9}, {0, 0}, {11, 9}, {-1, 9}, {9, 0}, {11, 0}, {12, 6},
            {Integer.MAX_VALUE, Integer.MAX_VALUE}, {Integer.MIN_VALUE, Integer.MIN_VALUE}};
        for (int[] w : wrong) {
            langfordRefused(w[0], w[1]);
        }
    }

    private void near() {
        e.sentence(4, "Sets a problem with the differences 1 to greatest other than one that is left out");
        for (int greatest = 2; greatest <= 9; greatest++) {
            for (int omitted = 1; omitted <= greatest; omitted++) {
                int differences = (2 << greatest) - 2 & ~(1 << omitted);
                e.due("near(" + greatest + ", " + omitted + ", false)", Made.near(greatest, omitted, false).problem(2), differences);
                e.due("near(" + greatest + ", " + omitted + ", true)", Made.near(greatest, omitted, true).problem(2), differences);
            }
        }

        e.sentence(4, "there are no pins then");
        for (boolean hooked : new boolean[] {false, true}) {
            SpacedPairs x = Made.busy();
            x.near(5, 3, hooked);
            dueNoPins("near(5, 3, " + hooked + ")", x);
            x.pin(7, 9);
            x.near(2, 1, hooked);
            x.near(5, 3, hooked);
            dueNoPins("a shorter and again a longer one", x);
        }

        e.sentence(4, "The length and the hole are as with langford()");
        for (int greatest = 2; greatest <= 9; greatest++) {
            SpacedPairs x = Made.near(greatest, 2, false);
            int differences = (2 << greatest) - 2 & ~4;
            duePosed("near(" + greatest + ", 2, false)", x, 2 * greatest - 2, 0, differences);
            x.near(greatest, 2, true);
            duePosed("near(" + greatest + ", 2, true)", x, 2 * greatest - 1, 1 << (2 * greatest - 3), differences);
        }

        e.sentence(4, "- `hooked`: whether it is hooked");
        SpacedPairs x = Made.near(9, 5, true);
        x.near(9, 5, false);
        duePosed("true, then false", x, 16, 0, 0x3DE);
        x.near(9, 5, true);
        duePosed("true again", x, 17, 1 << 15, 0x3DE);

        e.sentence(4, "Returns the length");
        for (int greatest = 2; greatest <= 9; greatest++) {
            e.due("near(" + greatest + ", 1, false)", x.near(greatest, 1, false), 2 * greatest - 2);
            e.due("near(" + greatest + ", 1, true)", x.near(greatest, 1, true), 2 * greatest - 1);
        }
    }

    private void nearRefused(int greatest, int omitted) {
        for (boolean hooked : new boolean[] {false, true}) {
            e.unchanged("near(" + greatest + ", " + omitted + ", " + hooked + ")", x -> x.near(greatest, omitted, hooked), BAD_VALUE);
        }
    }

    private void nearRanges() {
        e.sentence(4, "- `greatest`: 2 to 9");
        e.due("near(2, 2, false)", Made.near(2, 2, false).problem(2), 0b10);
        e.due("near(9, 9, false)", Made.near(9, 9, false).problem(2), 0x1FE);
        for (int greatest : Edges.outside(2, 9)) {
            nearRefused(greatest, 1);
            nearRefused(greatest, 2);
        }

        e.sentence(4, "- `omitted`: the difference that is left out, 1 to greatest");
        for (int greatest = 2; greatest <= 9; greatest++) {
            int all = (2 << greatest) - 2;
            e.due("near(" + greatest + ", 1, true)", Made.near(greatest, 1, true).problem(2), all - 2);
            e.due("near(" + greatest + ", " + greatest + ", true)", Made.near(greatest, greatest, true).problem(2), all - (1 << greatest));
            for (int omitted : Edges.outside(1, greatest)) {
                nearRefused(greatest, omitted);
            }
        }

        e.sentence(4, "BAD_VALUE if an argument is out of range");
        int[][] wrong = {{1, 1}, {10, 10}, {4, 0}, {4, 5}, {1, 0}, {1, 2}, {10, 11}, {0, 0}, {-1, -1},
            {Integer.MAX_VALUE, Integer.MAX_VALUE}, {Integer.MIN_VALUE, Integer.MIN_VALUE}};
        for (int[] w : wrong) {
            nearRefused(w[0], w[1]);
        }
    }

    private void pin() {
        e.sentence(5, "Sets or removes a pin");
        SpacedPairs x = Made.langford(1, 4, false);
        x.pin(7, 4);
        e.due("pins after pin(7, 4)", x.problem(3), 1 << 7);
        e.due("count() after it", x.count(), 2);
        x.pin(0, 2);
        e.due("pins after pin(0, 2)", x.problem(3), 1 << 7 | 1);
        e.due("count() after it", x.count(), 1);
        x.pin(7, 0);
        e.due("pins after pin(7, 0)", x.problem(3), 1);
        x.pin(7, 0);
        e.due("pins after pin(7, 0) again", x.problem(3), 1);
        x.pin(0, 0);
        e.due("count() after pin(0, 0)", x.count(), 6);

        e.sentence(5, "Returns the previous difference, 0 if there was no pin");
        e.due("pin(0, 17) on none", x.pin(0, 17), 0);
        e.due("pin(0, 17) again", x.pin(0, 17), 17);
        e.due("pin(0, 1) on 17", x.pin(0, 1), 17);
        e.due("pin(1, 3) beside it", x.pin(1, 3), 0);
        e.due("pin(0, 0) on 1", x.pin(0, 0), 1);
        e.due("pin(0, 0) on none", x.pin(0, 0), 0);
        e.due("pin(1, 0) on 3", x.pin(1, 0), 3);

        e.sentence("Description", "(So there are none if the number of free positions is not twice that of the differences, or a pin is"
            + " at a hole or has a difference that the problem does not have.)");
        e.due("one position too few", Made.set(7, 0, 0b11110).count(), 0);
        e.due("one position too many", Made.set(9, 0, 0b11110).count(), 0);
        e.due("a hole too many", Made.set(8, 1, 0b11110).count(), 0);
        e.due("as many as are needed", Made.set(9, 1, 0b11110).count(), 6);
        e.due("a pin at a hole", Made.pinned(Made.set(9, 1, 0b11110), 0, 1).count(), 0);
        e.due("a pin with another difference", Made.pinned(Made.set(9, 1, 0b11110), 1, 5).count(), 0);
    }

    private void pinPosition() {
        e.sentence(5, "- `position`: the position");
        SpacedPairs x = Made.longest();
        e.due("pin(0, 3) of 18", x.pin(0, 3), 0);
        e.due("pin(17, 4) of 18", x.pin(17, 4), 0);
        e.due("pin(1, 5) at a hole", x.pin(1, 5), 0);
        e.due("pins", x.problem(3), 1 << 17 | 3);
        e.due("pin(0, 1) of 1", Made.set(1, 0, 2).pin(0, 1), 0);

        e.sentence(5, "NO_SUCH if there is no such position");
        for (int length : new int[] {1, 2, 17, 18}) {
            for (int p : Edges.outside(0, length - 1)) {
                for (int d : new int[] {0, 1, 17, -1, 18, Integer.MIN_VALUE, Integer.MAX_VALUE}) {
                    e.unchanged(() -> Made.pinned(Made.set(length, 0, 2), length - 1, 5), "pin(" + p + ", " + d + ")",
                        y -> y.pin(p, d), NO_SUCH);
                }
            }
        }
    }

    private void pinDifference() {
        e.sentence(5, "- `difference`: 1 to 17, or 0 to remove the pin");
        SpacedPairs x = Made.langford(1, 4, false);
        e.due("pin(3, 1)", x.pin(3, 1), 0);
        e.due("pin(3, 17)", x.pin(3, 17), 1);
        e.due("pins with 17", x.problem(3), 1 << 3);
        e.due("pin(3, 0)", x.pin(3, 0), 17);
        e.due("pins with 0", x.problem(3), 0);

        e.sentence(5, "BAD_VALUE if difference is out of range");
        for (int d : Edges.outside(0, 17)) {
            e.unchanged("pin(0, " + d + ") on a pin", y -> y.pin(0, d), BAD_VALUE);
            e.unchanged("pin(7, " + d + ") on none", y -> y.pin(7, d), BAD_VALUE);
            e.unchanged("pin(8, " + d + ") on no position", y -> y.pin(8, d), NO_SUCH);
        }
    }

    private void dueNumbers(String name, SpacedPairs x, int... numbers) {
        for (int what = 0; what < numbers.length; what++) {
            e.due("problem(" + what + ") of " + name, x.problem(what), numbers[what]);
        }
    }

    private void problem() {
        e.sentence(6, "Returns a number about the problem");
        dueNumbers("a busy object", Made.busy(), 8, 0, 0b11110, 1, 8, 4);

        e.sentence(6, "- `what`: 0 for the length, 1 for the set of holes, 2 for the set of differences, 3 for the set of pinned"
            + " positions, 4 for the number of free positions, 5 for the length of the pad");
        dueNumbers("the shortest", Made.set(1, 0, 2), 1, 0, 2, 0, 1, 0);
        dueNumbers("the shortest with a hole", Made.set(1, 1, 2), 1, 1, 2, 0, 0, 0);
        SpacedPairs x = Made.saying(Made.set(18, 0, 0xFF << 10), "!".repeat(18));
        dueNumbers("the longest", x, 18, 0, 0xFF << 10, 0, 18, 18);
        for (int p = 0; p < 18; p++) {
            x.pin(p, 17);
        }
        e.due("problem(3) with all pins", x.problem(3), 0x3FFFF);
        x = Made.pinned(Made.set(18, 0x3FFFF, 1 << 17), 17, 1);
        dueNumbers("holes alone", x, 18, 0x3FFFF, 1 << 17, 1 << 17, 0, 0);

        e.sentence(6, "Returns the number");
        e.due("problem(0)", Made.busy().problem(0), 8);

        e.sentence(6, "BAD_VALUE if what is not 0 to 5");
        for (int what : Edges.outside(0, 5)) {
            e.unchanged("problem(" + what + ")", y -> y.problem(what), BAD_VALUE);
        }
    }
}
