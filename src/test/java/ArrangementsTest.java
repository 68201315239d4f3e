/** Promises 10 to 15: count, at, start, frequency, options, forced. */
public final class ArrangementsTest {
    private static final Checks CHECKS = new Checks();

    private static void due(String call, int got, int want) {
        CHECKS.due(call, got, want);
    }

    public static void main(String[] args) {
        count();
        at();
        start();
        frequency();
        options();
        forced();
        CHECKS.finish();
    }

    /** Skolem's and Langford's numbers are the known ones; the hooked ones were counted by another program. */
    private static void count() {
        int[] skolem = {1, 0, 0, 6, 10, 0, 0, 504};
        int[] langford = {0, 0, 2, 2, 0, 0, 52, 300};
        int[] hookedSkolem = {0, 1, 2, 0, 0, 38, 124, 0};
        SpacedPairs x = new SpacedPairs();
        for (int n = 1; n <= 8; n++) {
            x.langford(1, n, false);
            due("Skolem " + n, x.count(), skolem[n - 1]);
            x.langford(2, n, false);
            due("Langford " + n, x.count(), langford[n - 1]);
            x.langford(1, n, true);
            due("hooked Skolem " + n, x.count(), hookedSkolem[n - 1]);
        }
        x.set(16, 0, 0x4FE);
        due("the most that there are", x.count(), 512);
        x.set(6, 0, 20);
        due("too many positions", x.count(), 0);
        x.set(2, 0, 6);
        due("too few positions", x.count(), 0);
        x.set(2, 3, 2);
        due("holes alone", x.count(), 0);
    }

    private static void at() {
        SpacedPairs x = new SpacedPairs();
        x.langford(1, 4, false);
        String[] rows = {"1 1 3 4 2 3 2 4", "1 1 4 2 3 2 4 3", "2 3 2 4 3 1 1 4",
            "3 4 2 3 2 4 1 1", "4 1 1 3 4 2 3 2", "4 2 3 2 4 3 1 1"};
        for (int i = 0; i < rows.length; i++) {
            CHECKS.dueText("row " + i, Checks.rowOf(x, i), rows[i]);
        }
        for (int i : new int[] {6, -1, 512, Integer.MIN_VALUE, Integer.MAX_VALUE}) {
            due("at(" + i + ", 0)", x.at(i, 0), SpacedPairs.NONE);
            due("at(" + i + ", 8)", x.at(i, 8), SpacedPairs.NO_SUCH);
        }
        for (int p : new int[] {-1, 8, 18, 32, Integer.MIN_VALUE, Integer.MAX_VALUE}) {
            due("at(0, " + p + ")", x.at(0, p), SpacedPairs.NO_SUCH);
        }
        x.langford(1, 2, true);
        CHECKS.dueText("the hooked row", Checks.rowOf(x, 0), "1 1 2 0 2");
        x.set(18, 0x3FFFF & ~(1 << 17 | 1), 1 << 17);
        due("the greatest difference at its end", x.at(0, 17), 17);
        due("a hole", x.at(0, 16), 0);
    }

    private static void start() {
        SpacedPairs x = new SpacedPairs();
        x.set(9, 1 << 2, 0b11110);
        String[] due = new String[x.count()];
        for (int i = 0; i < due.length; i++) {
            for (int d = 1; d <= 4; d++) {
                int s = x.start(i, d);
                due("the start of " + d, x.at(i, s), d);
                due("the end of " + d, x.at(i, s + d), d);
            }
        }
        due("there are some", due.length > 0 ? 1 : 0, 1);
        x.langford(1, 4, false);
        int[] starts = {0, 4, 2, 3};
        for (int d = 1; d <= 4; d++) {
            due("start(0, " + d + ")", x.start(0, d), starts[d - 1]);
        }
        for (int d : new int[] {0, 5, -1, 18, 33, 36, Integer.MIN_VALUE, Integer.MAX_VALUE}) {
            due("start(0, " + d + ")", x.start(0, d), SpacedPairs.NO_SUCH);
            due("start(6, " + d + ")", x.start(6, d), SpacedPairs.NO_SUCH);
        }
        for (int i : new int[] {6, -1, Integer.MIN_VALUE, Integer.MAX_VALUE}) {
            due("start(" + i + ", 1)", x.start(i, 1), SpacedPairs.NONE);
        }
        x.pin(0, 9);
        due("start() without arrangements", x.start(0, 1), SpacedPairs.NONE);
    }

    private static void frequency() {
        SpacedPairs x = new SpacedPairs();
        x.langford(1, 4, false);
        int[] atFirst = {0, 2, 1, 1, 2, 0};
        for (int d = 0; d <= 5; d++) {
            due("frequency(0, " + d + ")", x.frequency(0, d), atFirst[d]);
        }
        due("frequency(7, 17)", x.frequency(7, 17), 0);
        for (int p : new int[] {-1, 8, Integer.MIN_VALUE, Integer.MAX_VALUE}) {
            due("frequency(" + p + ", 18)", x.frequency(p, 18), SpacedPairs.NO_SUCH);
        }
        for (int d : new int[] {-1, 18, Integer.MIN_VALUE, Integer.MAX_VALUE}) {
            due("frequency(0, " + d + ")", x.frequency(0, d), SpacedPairs.BAD_VALUE);
        }
        x.langford(1, 3, true);
        due("frequency of a hole", x.frequency(5, 0), 2);
        due("frequency of a difference at a hole", x.frequency(5, 1), 0);
        x.pin(0, 17);
        due("frequency of a hole without arrangements", x.frequency(5, 0), 0);
    }

    private static void options() {
        SpacedPairs x = new SpacedPairs();
        x.langford(1, 4, false);
        int[] due = {0b11110, 0b11110, 0b11110, 0b11100, 0b11100, 0b11110, 0b11110, 0b11110};
        for (int p = 0; p < due.length; p++) {
            due("options(" + p + ")", x.options(p), due[p]);
        }
        for (int p : new int[] {-1, 8, 18, Integer.MIN_VALUE, Integer.MAX_VALUE}) {
            due("options(" + p + ")", x.options(p), SpacedPairs.NO_SUCH);
        }
        x.pin(0, 4);
        due("options() with a pin", x.options(1), 0b00110);
        due("options() at the pin", x.options(0), 0b10000);
        x.pin(0, 9);
        due("options() without arrangements", x.options(1), 0);
        x.langford(1, 3, true);
        due("options() at a hole", x.options(5), 0);
        x.set(18, 0x3FFFF & ~(1 << 17 | 1), 1 << 17);
        due("options() with the greatest difference", x.options(17), 1 << 17);
    }

    private static void forced() {
        SpacedPairs x = new SpacedPairs();
        due("forced() with one arrangement", x.forced(), 0b11);
        x.langford(1, 4, false);
        due("forced() with none in common", x.forced(), 0);
        x.pin(0, 1);
        due("forced() with a pin", x.forced(), 0b11);
        x.pin(0, 9);
        due("forced() without arrangements", x.forced(), 0);
        x.langford(1, 2, true);
        due("forced() with a hole", x.forced(), 0b10111);
    }
}
