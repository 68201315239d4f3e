/** Promises 7 to 9: startSum, slack, starts. */
public final class ConditionsTest {
    private static final Checks CHECKS = new Checks();

    private static void due(String call, int got, int want) {
        CHECKS.due(call, got, want);
    }

    public static void main(String[] args) {
        startSum();
        slack();
        starts();
        CHECKS.finish();
    }

    private static void startSum() {
        SpacedPairs x = new SpacedPairs();
        due("startSum() of 1", x.startSum(), 0);
        x.langford(1, 4, false);
        due("startSum() of 1 to 4", x.startSum(), (28 - 10) / 2);
        x.pin(0, 17);
        due("startSum() does not look at pins", x.startSum(), 9);
        x.langford(1, 2, false);
        due("startSum() that is no integer", x.startSum(), SpacedPairs.NONE);
        x.langford(1, 2, true);
        due("startSum() with a hook", x.startSum(), (0 + 1 + 2 + 4 - 3) / 2);
        x.set(6, 0, 20);
        due("startSum() with too many positions", x.startSum(), SpacedPairs.NONE);
        x.set(2, 0, 6);
        due("startSum() with too few positions", x.startSum(), SpacedPairs.NONE);
        x.set(2, 0, 1 << 17);
        due("startSum() below 0", x.startSum(), (1 - 17) / 2);
        x.set(2, 0, 1 << 16);
        due("startSum() below 0 that is no integer", x.startSum(), SpacedPairs.NONE);
        x.set(18, 0b11, 0b111111110);
        due("startSum() with holes in front", x.startSum(), (152 - 36) / 2);
    }

    private static void slack() {
        SpacedPairs x = new SpacedPairs();
        due("slack() of 1", x.slack(), 1000);
        x.langford(1, 4, false);
        due("slack() of 1 to 4", x.slack(), 1000 + (4 + 5 + 6 + 7) - (0 + 1 + 2 + 3) - 10);
        x.pin(0, 17);
        due("slack() does not look at pins", x.slack(), 1006);
        x.langford(1, 2, false);
        due("slack() needs no integer", x.slack(), 1000 + 5 - 1 - 3);
        x.langford(1, 2, true);
        due("slack() with a hook", x.slack(), 1000 + 6 - 1 - 3);
        x.set(2, 0, 1 << 17);
        due("slack() below 1000", x.slack(), 1000 + 1 - 17);
        x.set(6, 0, 20);
        due("slack() with too many positions", x.slack(), SpacedPairs.NONE);
        x.set(2, 0, 6);
        due("slack() with too few positions", x.slack(), SpacedPairs.NONE);
    }

    private static void starts() {
        SpacedPairs x = new SpacedPairs();
        x.set(6, 0b000100, 0b100110);
        due("starts(1)", x.starts(1), 0b011001);
        due("starts(2)", x.starts(2), 0b001010);
        due("starts(5)", x.starts(5), 0b000001);
        x.pin(3, 2);
        due("starts(1) beside a pin with another", x.starts(1), 0b010001);
        due("starts(2) with a pin of its own", x.starts(2), 0b001010);
        x.pin(0, 9);
        due("starts(5) at a pin with another", x.starts(5), 0);
        x.pin(2, 2);
        due("starts(2) with a pin at a hole", x.starts(2), 0b001010);
        x.pin(3, 1);
        due("starts(2) when the pin at its end changed", x.starts(2), 0);
        for (int d : new int[] {0, 3, 9, 17, 18, 31, 32, 33, 34, -1, -30, -31, Integer.MIN_VALUE, Integer.MAX_VALUE}) {
            due("starts(" + d + ")", x.starts(d), SpacedPairs.NO_SUCH);
        }
        x.set(2, 0, 6);
        due("starts() longer than the row", x.starts(2), 0);
        x.set(18, 0, 1 << 17);
        due("starts(17)", x.starts(17), 1);
    }
}
