/** Promises 29 to 32: triple, cover, hooks, omissions. */
public final class TriplesTest {
    private static final Checks CHECKS = new Checks();

    private static void due(String call, int got, int want) {
        CHECKS.due(call, got, want);
    }

    public static void main(String[] args) {
        triple();
        cover();
        hooks();
        omissions();
        CHECKS.finish();
    }

    private static void triple() {
        SpacedPairs x = new SpacedPairs();
        x.langford(1, 4, false);
        int[][] triples = {{1, 5, 6}, {2, 9, 11}, {3, 7, 10}, {4, 8, 12}};
        for (int[] t : triples) {
            for (int what = 0; what <= 2; what++) {
                due("triple(0, " + t[0] + ", " + what + ")", x.triple(0, t[0], what), t[what]);
            }
        }
        for (int what : new int[] {-1, 3, Integer.MIN_VALUE, Integer.MAX_VALUE}) {
            due("triple(0, 1, " + what + ")", x.triple(0, 1, what), SpacedPairs.BAD_VALUE);
            due("triple(6, 1, " + what + ")", x.triple(6, 1, what), SpacedPairs.NO_SUCH);
            due("triple(0, 5, " + what + ")", x.triple(0, 5, what), SpacedPairs.NO_SUCH);
        }
        for (int d : new int[] {0, 5, -1, 33, Integer.MIN_VALUE, Integer.MAX_VALUE}) {
            due("triple(0, " + d + ", 0)", x.triple(0, d, 0), SpacedPairs.NO_SUCH);
        }
        for (int i : new int[] {-1, 6, Integer.MIN_VALUE, Integer.MAX_VALUE}) {
            due("triple(" + i + ", 1, 0)", x.triple(i, 1, 0), SpacedPairs.NO_SUCH);
        }
    }

    private static void cover() {
        SpacedPairs x = new SpacedPairs();
        due("cover() of 1, 2, 3", x.cover(0), 3);
        x.langford(1, 4, false);
        for (int i = 0; i < 6; i++) {
            due("cover(" + i + ")", x.cover(i), 12);
        }
        for (int i : new int[] {-1, 6, Integer.MIN_VALUE, Integer.MAX_VALUE}) {
            due("cover(" + i + ")", x.cover(i), SpacedPairs.NO_SUCH);
        }
        x.langford(1, 2, true);
        due("cover() with a hook", x.cover(0), 7);
        // 2 with the start 0 gives 2, 2, 4: twice in one triple.
        x.set(3, 2, 4);
        due("cover() with a number twice in a triple", x.cover(0), 0);
        // 1 with the start 1 and 3 with the start 0 give 1, 4, 5 and 3, 3, 6.
        x.set(4, 0, 0b1010);
        due("cover() with its own difference", x.cover(0), 0);
        // 2, 3 and 4 give 4 for the start 0 of 3 or 4: in two triples.
        x.langford(2, 3, false);
        due("cover() with a number in two triples", x.cover(0), 0);
        // 17 with the start 0 gives 17, 2, 19: its greatest number is the last.
        x.set(18, 0x3FFFF & ~(1 << 17 | 1), 1 << 17);
        due("cover() with the greatest difference", x.cover(0), 19);
    }

    private static void hooks() {
        SpacedPairs x = new SpacedPairs();
        due("hooks() of 1", x.hooks(), 0b101);
        x.langford(1, 2, false);
        due("hooks() of 1 and 2", x.hooks(), 0b01010);
        x.langford(1, 4, false);
        due("hooks() of 1 to 4", x.hooks(), 0b101010101);
        x.pin(0, 9);
        x.pin(3, 3);
        due("hooks() with pins", x.hooks(), 0b101010101);
        x.set(18, 0x3F0F0, 0b11110);
        due("hooks() with another length", x.hooks(), 0b101010101);
        x.langford(1, 8, false);
        due("hooks() of 1 to 8", x.hooks(), 0x15555);
        due("count() after hooks()", x.count(), 504);
        x.langford(10, 8, false);
        due("hooks() of 10 to 17", x.hooks(), 0);
        x.set(2, 0, 1 << 17);
        due("hooks() of 17", x.hooks(), 0);
    }

    private static void omissions() {
        SpacedPairs x = new SpacedPairs();
        due("omissions() of 1", x.omissions(), 0);
        x.langford(1, 2, false);
        due("omissions() of 1 and 2", x.omissions(), 0b100);
        x.langford(1, 4, false);
        due("omissions() of 1 to 4", x.omissions(), 0b1010);
        x.pin(0, 9);
        due("omissions() with pins", x.omissions(), 0b1010);
        x.set(18, 0x3F0F0, 0b11110);
        due("omissions() with another length", x.omissions(), 0b1010);
        x.langford(1, 8, false);
        due("omissions() of 1 to 8", x.omissions(), 170);
        due("count() after omissions()", x.count(), 504);
        x.set(18, 0, 1 << 17 | 2);
        due("omissions() of 1 and 17", x.omissions(), 1 << 17);
        x.set(18, 0, 1 << 17 | 1 << 16);
        due("omissions() of 16 and 17", x.omissions(), 0);
    }
}
