/** The edges of the promises 33 and 34: save, restore. */
final class SavingEdges {
    private static final int BAD_VALUE = SpacedPairs.BAD_VALUE;
    private static final int NOT_POSSIBLE = SpacedPairs.NOT_POSSIBLE;

    private final Edges e;

    private SavingEdges(Edges edges) {
        e = edges;
    }

    static void test(Edges edges) {
        SavingEdges t = new SavingEdges(edges);
        t.save();
        t.saveSlots();
        t.restore();
        t.restoreKeeps();
        t.restoreRefused();
    }

    /** The longest problem, with a pin at each position, also at the holes. */
    private static SpacedPairs allPinned() {
        SpacedPairs x = Made.longest();
        for (int p = 0; p < 18; p++) {
            x.pin(p, 17 - p);
        }
        x.pin(17, 17);
        return x;
    }

    private void dueAllPinned(SpacedPairs x) {
        e.due("length", x.problem(0), 18);
        e.due("holes", x.problem(1), Made.ALL_BUT_ENDS);
        e.due("differences", x.problem(2), 1 << 17);
        for (int p = 0; p < 18; p++) {
            e.due("pin(" + p + ", 0)", x.pin(p, 0), p == 17 ? 17 : 17 - p);
        }
        e.due("count() without pins", x.count(), 1);
    }

    private void save() {
        e.sentence(33, "Saves the problem with its pins in a slot, and overwrites what was saved there");
        SpacedPairs x = allPinned();
        x.save(1);
        x.set(1, 0, 2);
        x.pin(0, 1);
        x.restore(1);
        dueAllPinned(x);
        x = Made.busy();
        x.set(3, 2, 4);
        x.pin(2, 2);
        e.due("save(0) over a longer problem", x.save(0), 3);
        x.langford(1, 4, false);
        x.restore(0);
        e.due("length", x.problem(0), 3);
        e.due("holes", x.problem(1), 2);
        e.due("differences", x.problem(2), 4);
        e.due("pins", x.problem(3), 4);
        e.due("pin(2, 0)", x.pin(2, 0), 2);

        e.sentence(33, "Returns the length of the problem");
        e.due("save(0) of the shortest", Made.set(1, 0, 2).save(0), 1);
        e.due("save(1) of the longest", Made.longest().save(1), 18);
        e.due("save(0) of a new object", new SpacedPairs().save(0), 2);
    }

    private void saveSlots() {
        e.sentence(33, "- `slot`: 0 or 1");
        SpacedPairs x = Made.busy();
        e.due("save(1)", x.save(1), 8);
        e.dueText("all after it", Witness.of(x), afterSave(1));
        x = Made.busy();
        e.due("save(0)", x.save(0), 8);
        e.dueText("all after it", Witness.of(x), afterSave(0));
        x = new SpacedPairs();
        x.save(0);
        e.due("restore(1) after save(0)", x.restore(1), NOT_POSSIBLE);
        x = new SpacedPairs();
        x.save(1);
        e.due("restore(0) after save(1)", x.restore(0), NOT_POSSIBLE);

        e.sentence(33, "BAD_VALUE if the slot does not exist");
        for (int slot : Edges.outside(0, 1)) {
            e.unchanged("save(" + slot + ")", y -> y.save(slot), BAD_VALUE);
            e.unchanged(SpacedPairs::new, "save(" + slot + ") of a new object", y -> y.save(slot), BAD_VALUE);
        }
    }

    private static String afterSave(int slot) {
        String busy = "8 0 30 1 8 count 2 (4 1 1 3 4 2 3 2) (4 2 3 2 4 3 1 1) pins 4 0 0 0 0 0 0 0";
        String saved = "7 32 14 64 6 count 1 (1 1 2 3 2 0 3) pins 0 0 0 0 0 0 3";
        String slots = slot == 0 ? " | slot 0: 8 " + busy + " | slot 1: -5" : " | slot 0: 7 " + saved + " | slot 1: 8 " + busy;
        return "pad \"4?.!\" of 4 " + busy + slots;
    }

    private void restore() {
        e.sentence(34, "Restores what was saved last in a slot, which keeps it");
        SpacedPairs x = Made.busy();
        x.restore(0);
        e.due("length", x.problem(0), 7);
        e.due("holes", x.problem(1), 1 << 5);
        e.due("differences", x.problem(2), 0b1110);
        e.due("pins", x.problem(3), 1 << 6);
        e.due("count()", x.count(), 1);
        e.dueText("the pad stays", Checks.padOf(x), "4?.!");
        x = new SpacedPairs();
        x.save(0);
        x.langford(1, 4, false);
        x.save(0);
        x.set(3, 2, 4);
        x.restore(0);
        e.due("count() of the later of two", x.count(), 6);

        e.sentence(34, "Returns the length of the problem then");
        x = Made.set(1, 0, 2);
        x.save(0);
        x.set(18, 0, 2);
        x.save(1);
        e.due("restore(0) of the shortest", x.restore(0), 1);
        e.due("restore(1) of the longest", x.restore(1), 18);
        e.due("restore(1) again", x.restore(1), 18);
    }

    private void restoreKeeps() {
        e.sentence(34, "- `slot`: 0 or 1");
        for (int slot = 0; slot <= 1; slot++) {
            SpacedPairs x = allPinned();
            x.save(slot);
            for (int time = 0; time < 3; time++) {
                x.pin(17, 3);
                x.langford(1, 8, false);
                e.due("restore(" + slot + ")", x.restore(slot), 18);
                dueAllPinned(x);
            }
        }
        SpacedPairs x = Made.langford(1, 4, false);
        x.save(1);
        e.due("count() before the pin", x.count(), 6);
        x.pin(0, 4);
        e.due("count() with the pin", x.count(), 2);
        x.restore(1);
        e.due("count() after restore(1)", x.count(), 6);
        x.pin(0, 1);
        x.restore(1);
        e.due("pins after restore(1) again", x.problem(3), 0);
        x.restore(0);
        e.due("count() after a restore that was not possible", x.count(), 6);
    }

    private void restoreRefused() {
        e.sentence(34, "BAD_VALUE if the slot does not exist");
        for (int slot : Edges.outside(0, 1)) {
            e.unchanged("restore(" + slot + ")", x -> x.restore(slot), BAD_VALUE);
            e.unchanged(SpacedPairs::new, "restore(" + slot + ") of a new object", x -> x.restore(slot), BAD_VALUE);
        }

        e.sentence(34, "NOT_POSSIBLE if nothing was saved in it");
        e.unchanged("restore(1)", x -> x.restore(1), NOT_POSSIBLE);
        e.unchanged(SpacedPairs::new, "restore(0) of a new object", x -> x.restore(0), NOT_POSSIBLE);
        e.unchanged(SpacedPairs::new, "restore(1) of a new object", x -> x.restore(1), NOT_POSSIBLE);
        SpacedPairs x = Made.longest();
        e.due("restore(0) when another object saved", x.restore(0), NOT_POSSIBLE);
        e.due("restore(0) after a refused save(2)", x.save(2) == BAD_VALUE ? x.restore(0) : 0, NOT_POSSIBLE);
        x.save(0);
        e.due("restore(0) after save(0)", x.restore(0), 18);
    }
}
