/** Promises 24 to 28: reversed, classes, distance, neighbour, steps. */
public final class AmongTest {
    private static final Checks CHECKS = new Checks();
    private static final int[] NO_NUMBERS = {-1, 6, 300, 512, Integer.MIN_VALUE, Integer.MAX_VALUE};

    private static void due(String call, int got, int want) {
        CHECKS.due(call, got, want);
    }

    public static void main(String[] args) {
        reversed();
        classes();
        distance();
        neighbour();
        steps();
        stepsRefused();
        CHECKS.finish();
    }

    private static void reversed() {
        SpacedPairs x = new SpacedPairs();
        due("reversed() of its own reversal", x.reversed(0), 0);
        x.langford(1, 4, false);
        int[] reversed = {5, 3, 4, 1, 2, 0};
        for (int i = 0; i < reversed.length; i++) {
            due("reversed(" + i + ")", x.reversed(i), reversed[i]);
        }
        for (int i : NO_NUMBERS) {
            due("reversed(" + i + ")", x.reversed(i), SpacedPairs.NO_SUCH);
        }
        x.pin(0, 4);
        due("reversed() that the pin leaves out", x.reversed(0), SpacedPairs.NONE);
        x.langford(1, 2, true);
        due("reversed() with a hole elsewhere", x.reversed(0), SpacedPairs.NONE);
        x.set(3, 2, 4);
        due("reversed() with a hole in the middle", x.reversed(0), 0);
    }

    private static void classes() {
        SpacedPairs x = new SpacedPairs();
        due("classes() of one", x.classes(), 1);
        x.langford(1, 4, false);
        due("classes() of six", x.classes(), 3);
        x.pin(0, 4);
        due("classes() of two that are not each other reversed", x.classes(), 2);
        x.pin(0, 9);
        due("classes() of none", x.classes(), 0);
        x.langford(1, 3, true);
        due("classes() with a hole elsewhere", x.classes(), 2);
        x.langford(2, 8, false);
        due("classes() of Langford 8", x.classes(), 150);
        x.set(4, 0, 0b1010);
        due("classes() of one that is its own reversal", x.classes(), 1);
    }

    private static void distance() {
        SpacedPairs x = new SpacedPairs();
        x.langford(1, 4, false);
        // The starts of 1, 2, 3 and 4 in the six arrangements, counted by hand from their rows.
        int[][] starts = {{0, 4, 2, 3}, {0, 3, 4, 2}, {5, 0, 1, 3}, {6, 2, 0, 1}, {1, 5, 3, 0}, {6, 1, 2, 0}};
        for (int one = 0; one < 6; one++) {
            for (int other = 0; other < 6; other++) {
                int distance = 0;
                for (int d = 0; d < 4; d++) {
                    distance += starts[one][d] == starts[other][d] ? 0 : 1;
                }
                due("distance(" + one + ", " + other + ")", x.distance(one, other), distance);
            }
        }
        for (int i : NO_NUMBERS) {
            due("distance(" + i + ", 0)", x.distance(i, 0), SpacedPairs.NO_SUCH);
            due("distance(0, " + i + ")", x.distance(0, i), SpacedPairs.NO_SUCH);
            due("distance(" + i + ", " + i + ")", x.distance(i, i), SpacedPairs.NO_SUCH);
        }
    }

    private static void neighbour(SpacedPairs x, int number, int... neighbours) {
        due("neighbour(" + number + ", -1)", x.neighbour(number, -1), neighbours.length);
        for (int i = 0; i < neighbours.length; i++) {
            due("neighbour(" + number + ", " + i + ")", x.neighbour(number, i), neighbours[i]);
        }
        for (int index : new int[] {neighbours.length, -2, Integer.MIN_VALUE, Integer.MAX_VALUE}) {
            due("neighbour(" + number + ", " + index + ")", x.neighbour(number, index), SpacedPairs.NONE);
        }
    }

    private static void neighbour() {
        SpacedPairs x = new SpacedPairs();
        neighbour(x, 0);
        x.langford(1, 4, false);
        neighbour(x, 0, 1, 2, 5);
        neighbour(x, 1, 0);
        neighbour(x, 3, 5);
        neighbour(x, 4, 5);
        for (int i : NO_NUMBERS) {
            due("neighbour(" + i + ", -1)", x.neighbour(i, -1), SpacedPairs.NO_SUCH);
            due("neighbour(" + i + ", 0)", x.neighbour(i, 0), SpacedPairs.NO_SUCH);
            due("neighbour(" + i + ", 9)", x.neighbour(i, 9), SpacedPairs.NO_SUCH);
        }
        x.pin(0, 1);
        neighbour(x, 0, 1);
        x.set(3, 2, 4);
        neighbour(x, 0);
    }

    private static void steps() {
        SpacedPairs x = new SpacedPairs();
        due("steps(0, 0)", x.steps(0, 0), 0);
        x.langford(1, 4, false);
        int[] from2 = {1, 2, 0, 3, 3, 2};
        for (int i = 0; i < from2.length; i++) {
            due("steps(2, " + i + ")", x.steps(2, i), from2[i]);
            due("steps(" + i + ", 2)", x.steps(i, 2), from2[i]);
        }
        x.pin(0, 4);
        due("steps() of two neighbours", x.steps(0, 1), 1);
        x.langford(1, 3, true);
        due("steps() where nothing leads", x.steps(0, 1), x.distance(0, 1) == 3 ? 1 : SpacedPairs.NONE);
    }

    private static void stepsRefused() {
        SpacedPairs x = new SpacedPairs();
        x.langford(1, 4, false);
        for (int i : NO_NUMBERS) {
            due("steps(" + i + ", 0)", x.steps(i, 0), SpacedPairs.NO_SUCH);
            due("steps(0, " + i + ")", x.steps(0, i), SpacedPairs.NO_SUCH);
        }
        x.langford(1, 8, false);
        due("steps(299, 299)", x.steps(299, 299), 0);
        due("steps(300, 0)", x.steps(300, 0), SpacedPairs.BAD_VALUE);
        due("steps(0, 300)", x.steps(0, 300), SpacedPairs.BAD_VALUE);
        due("steps(503, 503)", x.steps(503, 503), SpacedPairs.BAD_VALUE);
        due("steps(504, 300)", x.steps(504, 300), SpacedPairs.NO_SUCH);
        due("steps(300, 504)", x.steps(300, 504), SpacedPairs.NO_SUCH);
        due("steps(300, -1)", x.steps(300, -1), SpacedPairs.NO_SUCH);
        x.langford(2, 8, false);
        due("steps(299, 299) of 300", x.steps(299, 299), 0);
        due("steps(300, 0) of 300", x.steps(300, 0), SpacedPairs.NO_SUCH);
    }
}
