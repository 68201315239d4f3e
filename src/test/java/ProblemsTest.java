/** Promises 1 to 6: a new object, set, langford, near, pin, problem. */
public final class ProblemsTest {
    private static final Checks CHECKS = new Checks();

    private static void due(String call, int got, int want) {
        CHECKS.due(call, got, want);
    }

    private static void duePosed(SpacedPairs x, String call, int length, int holes, int differences) {
        due(call + ", length", x.problem(0), length);
        due(call + ", holes", x.problem(1), holes);
        due(call + ", differences", x.problem(2), differences);
        due(call + ", pins", x.problem(3), 0);
        due(call + ", free positions", x.problem(4), length - Integer.bitCount(holes));
    }

    public static void main(String[] args) {
        newObject();
        set();
        langford();
        near();
        pin();
        problem();
        CHECKS.finish();
    }

    private static void newObject() {
        SpacedPairs x = new SpacedPairs();
        duePosed(x, "SpacedPairs()", 2, 0, 1 << 1);
        due("new pad", x.problem(5), 0);
        due("new count", x.count(), 1);
        CHECKS.dueText("new row", Checks.rowOf(x, 0), "1 1");
        due("new slot 0", x.restore(0), SpacedPairs.NOT_POSSIBLE);
        due("new slot 1", x.restore(1), SpacedPairs.NOT_POSSIBLE);
    }

    private static void set() {
        SpacedPairs x = new SpacedPairs();
        x.say('1');
        x.pin(0, 1);
        due("set(3, 2, 4)", x.set(3, 2, 4), 1);
        duePosed(x, "set(3, 2, 4)", 3, 2, 4);
        due("the pad stays", x.problem(5), 1);
        due("set(1, 1, 2)", x.set(1, 1, 2), 1);
        duePosed(x, "set(1, 1, 2)", 1, 1, 2);
        due("set(18, 2^18 - 1, 17)", x.set(18, (1 << 18) - 1, 1 << 17), 1);
        duePosed(x, "set(18, 2^18 - 1, 17)", 18, (1 << 18) - 1, 1 << 17);
        due("set(18, 0, 10..17)", x.set(18, 0, 0xFF << 10), 8);
        duePosed(x, "set(18, 0, 10..17)", 18, 0, 0xFF << 10);
        x.pin(17, 17);
        due("set again", x.set(18, 0, 0xFF << 10), 8);
        due("no pins after set", x.problem(3), 0);
    }

    private static void langford() {
        SpacedPairs x = new SpacedPairs();
        x.pin(0, 1);
        due("langford(1, 1, false)", x.langford(1, 1, false), 2);
        duePosed(x, "langford(1, 1, false)", 2, 0, 2);
        due("langford(1, 1, true)", x.langford(1, 1, true), 3);
        duePosed(x, "langford(1, 1, true)", 3, 2, 2);
        due("langford(1, 2, true)", x.langford(1, 2, true), 5);
        duePosed(x, "langford(1, 2, true)", 5, 8, 6);
        due("langford(10, 8, true)", x.langford(10, 8, true), 17);
        duePosed(x, "langford(10, 8, true)", 17, 1 << 15, 0xFF << 10);
        due("langford(3, 5, false)", x.langford(3, 5, false), 10);
        duePosed(x, "langford(3, 5, false)", 10, 0, 0x1F << 3);
    }

    private static void near() {
        SpacedPairs x = new SpacedPairs();
        x.pin(1, 1);
        due("near(2, 2, false)", x.near(2, 2, false), 2);
        duePosed(x, "near(2, 2, false)", 2, 0, 2);
        due("near(2, 1, true)", x.near(2, 1, true), 3);
        duePosed(x, "near(2, 1, true)", 3, 2, 4);
        due("near(9, 9, true)", x.near(9, 9, true), 17);
        duePosed(x, "near(9, 9, true)", 17, 1 << 15, 0x1FE);
        due("near(9, 1, false)", x.near(9, 1, false), 16);
        duePosed(x, "near(9, 1, false)", 16, 0, 0x3FC);
        due("near(5, 2, false)", x.near(5, 2, false), 8);
        duePosed(x, "near(5, 2, false)", 8, 0, 0b111010);
    }

    private static void pin() {
        SpacedPairs x = new SpacedPairs();
        x.langford(1, 4, false);
        due("pin(7, 4)", x.pin(7, 4), 0);
        due("pin(7, 17)", x.pin(7, 17), 4);
        due("pin(0, 1)", x.pin(0, 1), 0);
        due("two pins", x.problem(3), 1 << 7 | 1);
        due("pin(7, 0)", x.pin(7, 0), 17);
        due("pin(7, 0) again", x.pin(7, 0), 0);
        due("one pin", x.problem(3), 1);
        due("count with a pin", x.count(), 2);
        due("pin(0, 2)", x.pin(0, 2), 1);
        due("count with the new pin", x.count(), 1);
        due("pin(0, 5)", x.pin(0, 5), 2);
        due("count with a difference that the problem lacks", x.count(), 0);
        x.pin(0, 0);
        due("count without pins", x.count(), 6);
        x.set(3, 2, 4);
        due("pin at a hole", x.pin(1, 2), 0);
        due("count with a pin at a hole", x.count(), 0);
        due("pin(1, 0) at the hole", x.pin(1, 0), 2);
        due("count without it", x.count(), 1);
        for (int d = 1; d <= 17; d++) {
            due("pin(0, " + d + ")", x.pin(0, d), d - 1);
        }
    }

    private static void problem() {
        SpacedPairs x = new SpacedPairs();
        x.set(9, 0b100000100, 0b10110);
        x.pin(8, 1);
        x.pin(2, 16);
        x.say('!');
        x.say('a');
        int[] due = {9, 0b100000100, 0b10110, 0b100000100, 7, 2};
        for (int what = 0; what < due.length; what++) {
            due("problem(" + what + ")", x.problem(what), due[what]);
        }
        for (int what : new int[] {-1, 6, 7, Integer.MIN_VALUE, Integer.MAX_VALUE}) {
            due("problem(" + what + ")", x.problem(what), SpacedPairs.BAD_VALUE);
        }
    }
}
