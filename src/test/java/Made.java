/** Objects for the tests of edges, made in one line each. */
final class Made {
    /** One arrangement, with the greatest difference at the ends of the longest row. */
    static final int ALL_BUT_ENDS = 0x3FFFF & ~(1 << 17 | 1);

    private Made() {
    }

    static SpacedPairs set(int length, int holes, int differences) {
        SpacedPairs x = new SpacedPairs();
        x.set(length, holes, differences);
        return x;
    }

    static SpacedPairs langford(int first, int count, boolean hooked) {
        SpacedPairs x = new SpacedPairs();
        x.langford(first, count, hooked);
        return x;
    }

    static SpacedPairs near(int greatest, int omitted, boolean hooked) {
        SpacedPairs x = new SpacedPairs();
        x.near(greatest, omitted, hooked);
        return x;
    }

    static SpacedPairs longest() {
        return set(18, ALL_BUT_ENDS, 1 << 17);
    }

    static SpacedPairs pinned(SpacedPairs x, int position, int difference) {
        x.pin(position, difference);
        return x;
    }

    static SpacedPairs saying(SpacedPairs x, String text) {
        Checks.sayAll(x, text);
        return x;
    }

    /**
     * The arrangements 0 and 1 of 1 to 4 with a 4 at the front, 41134232 and 42324311; a text with a
     * fault on the pad; in slot 0 another problem with a pin, 11232.3; nothing in slot 1.
     */
    static SpacedPairs busy() {
        SpacedPairs x = langford(1, 3, true);
        x.pin(6, 3);
        x.save(0);
        x.langford(1, 4, false);
        x.pin(0, 4);
        x.count();
        return saying(x, "4?.!");
    }

    /** Like busy(), with a row on the pad that is the arrangement 1. */
    static SpacedPairs busyWithRow() {
        return saying(busy(), "42324311");
    }
}
