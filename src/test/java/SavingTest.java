/** Promises 33 and 34: save, restore. */
public final class SavingTest {
    private static final Checks CHECKS = new Checks();

    private static void due(String call, int got, int want) {
        CHECKS.due(call, got, want);
    }

    public static void main(String[] args) {
        saveAndRestore();
        CHECKS.finish();
    }

    private static void saveAndRestore() {
        SpacedPairs x = new SpacedPairs();
        x.langford(1, 4, false);
        x.pin(0, 4);
        due("save(0)", x.save(0), 8);
        String saved = Checks.stateOf(x);
        due("restore(1) when only 0 was saved", x.restore(1), SpacedPairs.NOT_POSSIBLE);
        x.langford(2, 3, true);
        x.pin(6, 17);
        due("save(1)", x.save(1), 7);
        String other = Checks.stateOf(x);
        due("restore(0)", x.restore(0), 8);
        CHECKS.dueText("what restore(0) brought", Checks.stateOf(x), saved);
        due("count() after restore(0)", x.count(), 2);
        x.pin(0, 0);
        due("count() without the pin", x.count(), 6);
        due("restore(0) again", x.restore(0), 8);
        due("count() at once", x.count(), 2);
        CHECKS.dueText("the slot keeps it", Checks.stateOf(x), saved);
        due("count() after restore(0) again", x.count(), 2);
        due("restore(1)", x.restore(1), 7);
        CHECKS.dueText("what restore(1) brought", Checks.stateOf(x), other);
        x.say('1');
        due("save(0) over", x.save(0), 7);
        x.say('2');
        x.set(3, 2, 4);
        due("restore(0) of the later one", x.restore(0), 7);
        CHECKS.dueText("the pad is not saved", Checks.padOf(x), "12");
        x.wipe();
        CHECKS.dueText("what restore(0) brought later", Checks.stateOf(x), other);
    }
}
