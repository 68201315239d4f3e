/** The edges of the promises 24 to 28: reversed, classes, distance, neighbour, steps. */
final class AmongEdges {
    private static final int NONE = SpacedPairs.NONE;
    private static final int NO_SUCH = SpacedPairs.NO_SUCH;
    private static final int BAD_VALUE = SpacedPairs.BAD_VALUE;
    /** The starts of 1, 2, 3 and 4 in the arrangements of 1 to 4. */
    private static final int[][] STARTS = {{0, 4, 2, 3}, {0, 3, 4, 2}, {5, 0, 1, 3}, {6, 2, 0, 1}, {1, 5, 3, 0}, {6, 1, 2, 0}};
    /** The neighbours of these arrangements. */
    private static final int[][] NEIGHBOURS = {{1, 2, 5}, {0}, {0}, {5}, {5}, {0, 3, 4}};
    /** The arrangements that these are in reverse. */
    private static final int[] REVERSED = {5, 3, 4, 1, 2, 0};

    private final Edges e;

    private AmongEdges(Edges edges) {
        e = edges;
    }

    static void test(Edges edges) {
        AmongEdges t = new AmongEdges(edges);
        t.reversed();
        t.reversedRefused();
        t.classes();
        t.distance();
        t.distanceRefused();
        t.neighbour();
        t.neighboursNeverNearer();
        t.neighbourIndex();
        t.neighbourRefused();
        t.steps();
        t.stepsUpTo300();
        t.stepsNone();
        t.stepsRefused();
    }

    private static SpacedPairs oneToFour() {
        return Made.langford(1, 4, false);
    }

    private static SpacedPairs oneToEight() {
        return Made.langford(1, 8, false);
    }

    private static SpacedPairs busyWithout() {
        return Made.pinned(Made.busy(), 0, 9);
    }

    private void reversed() {
        e.sentence(24, "Returns the arrangement whose row is that of an arrangement, reversed");
        for (int i = 0; i < REVERSED.length; i++) {
            e.due("reversed(" + i + ")", oneToFour().reversed(i), REVERSED[i]);
        }
        e.unchanged(AmongEdges::oneToFour, "reversed(2)", x -> x.reversed(2), 4);

        e.sentence(24, "- `number`: the number of the arrangement");
        SpacedPairs x = oneToEight();
        for (int number : new int[] {0, 1, 502, 503}) {
            int other = x.reversed(number);
            e.due("reversed() of reversed(" + number + ")", x.reversed(other), number);
            e.due("the last of reversed(" + number + ")", x.at(other, 15), x.at(number, 0));
        }

        e.sentence(24, "Returns its number");
        e.due("its own reversal", new SpacedPairs().reversed(0), 0);
        e.due("the longest row", Made.longest().reversed(0), 0);
        e.due("with a hole in the middle", Made.set(3, 2, 4).reversed(0), 0);
        e.due("3113", Made.set(4, 0, 0b1010).reversed(0), 0);
    }

    private void reversedRefused() {
        e.sentence(24, "NONE if the reversed row is not that of an arrangement");
        e.unchanged("reversed(0) that a pin rules out", x -> x.reversed(0), NONE);
        e.unchanged("reversed(1) that a pin rules out", x -> x.reversed(1), NONE);
        e.due("a hook at the other end", Made.langford(1, 2, true).reversed(0), NONE);
        e.due("a hole in front", Made.set(3, 1, 2).reversed(0), NONE);
        e.due("a hole behind", Made.set(3, 4, 2).reversed(0), NONE);
        SpacedPairs x = Made.pinned(oneToFour(), 2, 3);
        e.due("the first of two that the pin leaves", x.reversed(0), 1);
        e.due("the second of them", x.reversed(1), 0);

        e.sentence(24, "NO_SUCH if there is no such arrangement");
        for (int number : Edges.outside(0, 1)) {
            e.unchanged("reversed(" + number + ")", y -> y.reversed(number), NO_SUCH);
        }
        for (int number : Edges.outside(0, 503)) {
            e.due("reversed(" + number + ") of 504", oneToEight().reversed(number), NO_SUCH);
        }
        e.due("reversed(0) without arrangements", busyWithout().reversed(0), NO_SUCH);
    }

    private void classes() {
        e.sentence(25, "Counts the arrangements, where two whose rows are each other reversed count as one");
        e.due("six", oneToFour().classes(), 3);
        e.due("two, each other reversed", Made.langford(2, 3, false).classes(), 1);
        e.unchanged("classes() of two that are not", SpacedPairs::classes, 2);
        e.due("two with a hook", Made.langford(1, 3, true).classes(), 2);
        e.due("one that is its own reversal", Made.set(4, 0, 0b1010).classes(), 1);
        e.due("one that is not", Made.langford(1, 2, true).classes(), 1);

        e.sentence(25, "Returns the number");
        e.due("none", Made.langford(1, 2, false).classes(), 0);
        e.due("none that a pin leaves", busyWithout().classes(), 0);
        e.due("504", oneToEight().classes(), 252);
        e.due("the most that there are", Made.set(16, 0, 0x4FE).classes(), 256);
    }

    private static int distanceOf(int one, int other) {
        int distance = 0;
        for (int i = 0; i < 4; i++) {
            distance += STARTS[one][i] == STARTS[other][i] ? 0 : 1;
        }
        return distance;
    }

    private void distance() {
        e.sentence(26, "Counts the differences whose starts are not the same in two arrangements");
        for (int one = 0; one < 6; one++) {
            SpacedPairs x = oneToFour();
            for (int other = 0; other < 6; other++) {
                e.due("distance(" + one + ", " + other + ")", x.distance(one, other), distanceOf(one, other));
            }
        }
        e.unchanged("distance(0, 1)", x -> x.distance(0, 1), 3);

        e.sentence(26, "- `one`: the number of an arrangement");
        e.due("distance(0, 1) of 504", oneToEight().distance(0, 1), oneToEight().distance(1, 0));
        e.due("distance(503, 503) of 504", oneToEight().distance(503, 503), 0);

        e.sentence(26, "- `other`: the number of an arrangement");
        e.due("distance(0, 0) of 504", oneToEight().distance(0, 0), 0);
        e.due("distance(0, 503) of 504", oneToEight().distance(0, 503), oneToEight().distance(503, 0));

        e.sentence(26, "Returns the number");
        e.due("none", new SpacedPairs().distance(0, 0), 0);
        int most = 0;
        SpacedPairs x = oneToEight();
        for (int other = 0; other < 504; other++) {
            most = Math.max(most, x.distance(0, other));
        }
        e.due("all eight", most, 8);
    }

    private void distanceRefused() {
        e.sentence(26, "NO_SUCH if there is no such arrangement");
        for (int number : Edges.outside(0, 1)) {
            e.unchanged("distance(" + number + ", 0)", x -> x.distance(number, 0), NO_SUCH);
            e.unchanged("distance(1, " + number + ")", x -> x.distance(1, number), NO_SUCH);
            e.unchanged("distance(" + number + ", " + number + ")", x -> x.distance(number, number), NO_SUCH);
        }
        for (int number : Edges.outside(0, 503)) {
            e.due("distance(" + number + ", 0) of 504", oneToEight().distance(number, 0), NO_SUCH);
            e.due("distance(503, " + number + ") of 504", oneToEight().distance(503, number), NO_SUCH);
        }
        e.due("distance(0, 0) without arrangements", busyWithout().distance(0, 0), NO_SUCH);
    }

    private void neighbour() {
        e.sentence(27, "Finds the neighbours of an arrangement: the arrangements in which just three differences have other starts");
        for (int number = 0; number < 6; number++) {
            dueNeighbours("1 to 4", oneToFour(), number, NEIGHBOURS[number]);
        }
        dueNeighbours("two", Made.busy(), 0, 1);
        dueNeighbours("two", Made.busy(), 1, 0);
        dueNeighbours("504", oneToEight(), 3, 2, 4, 5, 6, 13, 306);
        dueNeighbours("504", oneToEight(), 501, 497, 500);
        dueNeighbours("504", oneToEight(), 503);
        dueNeighbours("one", Made.longest(), 0);
        e.unchanged("neighbour(0, 0)", x -> x.neighbour(0, 0), 1);

        e.sentence(27, "- `number`: the number of the arrangement");
        e.due("neighbour(0, -1) of 504", oneToEight().neighbour(0, -1), 0);
        e.due("neighbour(500, 0) of 504", oneToEight().neighbour(500, 0), 501);
    }

    private void dueNeighbours(String name, SpacedPairs x, int number, int... neighbours) {
        e.due("neighbour(" + number + ", -1) of " + name, x.neighbour(number, -1), neighbours.length);
        for (int i = 0; i < neighbours.length; i++) {
            e.due("neighbour(" + number + ", " + i + ") of " + name, x.neighbour(number, i), neighbours[i]);
        }
        e.due("neighbour() beyond the last of " + name, x.neighbour(number, neighbours.length), NONE);
    }

    private void neighboursNeverNearer() {
        e.sentence(27, "(One or two differences alone never can.)");
        for (int one = 0; one < 52; one++) {
            SpacedPairs x = Made.langford(2, 7, false);
            for (int other = 0; other < 52; other++) {
                int distance = x.distance(one, other);
                boolean can = one == other ? distance == 0 : distance >= 3;
                e.due("distance(" + one + ", " + other + ") of 52 is as it can be", can ? 1 : 0, 1);
            }
        }
    }

    private void neighbourIndex() {
        e.sentence(27, "- `index`: -1 for the number of neighbours, otherwise an index among them, in the order of their numbers");
        e.unchanged(AmongEdges::oneToFour, "neighbour(0, -1)", x -> x.neighbour(0, -1), 3);
        e.unchanged(AmongEdges::oneToFour, "neighbour(0, 0)", x -> x.neighbour(0, 0), 1);
        e.unchanged(AmongEdges::oneToFour, "neighbour(0, 2)", x -> x.neighbour(0, 2), 5);

        e.sentence(27, "Returns the number, or the number of the neighbour");
        e.due("no neighbours", new SpacedPairs().neighbour(0, -1), 0);
        e.due("one neighbour", Made.busy().neighbour(1, -1), 1);
        e.due("it", Made.busy().neighbour(1, 0), 0);

        e.sentence(27, "NONE if there is no such index");
        for (int index : Edges.outside(-1, 2)) {
            e.unchanged(AmongEdges::oneToFour, "neighbour(0, " + index + ") of three", x -> x.neighbour(0, index), NONE);
        }
        for (int index : Edges.outside(-1, -1)) {
            e.unchanged(SpacedPairs::new, "neighbour(0, " + index + ") of none", x -> x.neighbour(0, index), NONE);
        }
    }

    private void neighbourRefused() {
        e.sentence(27, "NO_SUCH if there is no such arrangement");
        for (int index : new int[] {-1, 0, 1, -2, Integer.MIN_VALUE, Integer.MAX_VALUE}) {
            for (int number : Edges.outside(0, 1)) {
                e.unchanged("neighbour(" + number + ", " + index + ")", x -> x.neighbour(number, index), NO_SUCH);
            }
            e.due("neighbour(504, " + index + ") of 504", oneToEight().neighbour(504, index), NO_SUCH);
            e.due("neighbour(0, " + index + ") without arrangements", busyWithout().neighbour(0, index), NO_SUCH);
        }
    }

    private void steps() {
        e.sentence(28, "Returns the fewest steps from an arrangement to another one, where each step leads to a neighbour");
        int[][] steps = {{0, 1, 1, 2, 2, 1}, {1, 0, 2, 3, 3, 2}, {1, 2, 0, 3, 3, 2}, {2, 3, 3, 0, 2, 1}, {2, 3, 3, 2, 0, 1}, {1, 2, 2, 1, 1, 0}};
        SpacedPairs x = oneToFour();
        for (int one = 0; one < 6; one++) {
            for (int other = 0; other < 6; other++) {
                e.due("steps(" + one + ", " + other + ")", x.steps(one, other), steps[one][other]);
                e.due("steps(" + one + ", " + other + ") as the first call", oneToFour().steps(one, other), steps[one][other]);
            }
        }
        e.unchanged("steps(0, 1)", y -> y.steps(0, 1), 1);
        e.due("many steps", Made.set(16, 0, 0x4FE).steps(74, 268), 28);
        e.due("many steps back", Made.set(16, 0, 0x4FE).steps(268, 74), 28);

        e.sentence(28, "Returns the number of steps, 0 if both are the same");
        e.due("steps(0, 0) of one", new SpacedPairs().steps(0, 0), 0);
        e.due("steps(1, 1) of two", Made.busy().steps(1, 1), 0);
        e.due("steps(0, 0) of 504, which has no neighbours", oneToEight().steps(0, 0), 0);
    }

    private void stepsUpTo300() {
        e.sentence(28, "- `one`: the number of an arrangement, less than 300");
        e.due("steps(299, 299) of 504", oneToEight().steps(299, 299), 0);
        e.due("steps(299, 297) of 504", oneToEight().steps(299, 297), 2);
        e.due("steps(300, 299) of 504", oneToEight().steps(300, 299), BAD_VALUE);

        e.sentence(28, "- `other`: the number of an arrangement, less than 300");
        e.due("steps(298, 299) of 504", oneToEight().steps(298, 299), 1);
        e.due("steps(297, 299) of 504", oneToEight().steps(297, 299), 2);
        e.due("steps(299, 300) of 504", oneToEight().steps(299, 300), BAD_VALUE);
        e.due("steps(299, 299) of 300", Made.langford(2, 8, false).steps(299, 299), 0);
    }

    private void stepsNone() {
        e.sentence(28, "NONE if it cannot be reached by arrangements with numbers less than 300");
        e.unchanged(AmongEdges::oneToEight, "steps(0, 1), where 0 has no neighbours", y -> y.steps(0, 1), NONE);
        e.unchanged(AmongEdges::oneToEight, "steps(1, 0)", y -> y.steps(1, 0), NONE);
        e.unchanged(AmongEdges::oneToEight, "steps(1, 2), which only others would lead to", y -> y.steps(1, 2), NONE);
        SpacedPairs x = oneToEight();
        e.due("steps(2, 26), which others would make 9", x.steps(2, 26), 15);
        e.due("steps(0, 26) after a longer way was walked", x.steps(0, 26), NONE);
        e.due("steps(0, 299) of 504", oneToEight().steps(0, 299), NONE);
    }

    private void stepsRefused() {
        e.sentence(28, "NO_SUCH if there is no such arrangement");
        for (int number : Edges.outside(0, 1)) {
            e.unchanged("steps(" + number + ", 0)", x -> x.steps(number, 0), NO_SUCH);
            e.unchanged("steps(1, " + number + ")", x -> x.steps(1, number), NO_SUCH);
            e.unchanged("steps(" + number + ", " + number + ")", x -> x.steps(number, number), NO_SUCH);
        }
        for (int number : Edges.outside(0, 503)) {
            e.due("steps(" + number + ", 300) of 504", oneToEight().steps(number, 300), NO_SUCH);
            e.due("steps(300, " + number + ") of 504", oneToEight().steps(300, number), NO_SUCH);
        }
        e.due("steps(300, 0) of 300", Made.langford(2, 8, false).steps(300, 0), NO_SUCH);
        e.due("steps(0, 300) of 300", Made.langford(2, 8, false).steps(0, 300), NO_SUCH);
        e.due("steps(0, 0) without arrangements", busyWithout().steps(0, 0), NO_SUCH);

        e.sentence(28, "BAD_VALUE if a number is not less than 300");
        for (int number : new int[] {300, 301, 502, 503}) {
            e.unchanged(AmongEdges::oneToEight, "steps(" + number + ", 0)", x -> x.steps(number, 0), BAD_VALUE);
            e.unchanged(AmongEdges::oneToEight, "steps(0, " + number + ")", x -> x.steps(0, number), BAD_VALUE);
            e.unchanged(AmongEdges::oneToEight, "steps(" + number + ", 300)", x -> x.steps(number, 300), BAD_VALUE);
        }
    }
}
