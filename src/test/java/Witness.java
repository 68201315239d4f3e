/**
 * All that later calls show of an object: problem, arrangements, pad, pins and slots, in fewer than 450
 * calls. The object is another one afterwards.
 */
final class Witness {
    private static final int MOST_ROWS = 6;

    private Witness() {
    }

    static String of(SpacedPairs x) {
        StringBuilder seen = new StringBuilder();
        seen.append("pad \"").append(Checks.padOf(x)).append("\" of ").append(x.problem(5));
        addProblem(seen, x);
        for (int slot = 0; slot <= 1; slot++) {
            int restored = x.restore(slot);
            seen.append(" | slot ").append(slot).append(": ").append(restored);
            if (restored > 0) {
                addProblem(seen, x);
            }
        }
        return seen.toString();
    }

    private static void addProblem(StringBuilder seen, SpacedPairs x) {
        for (int what = 0; what <= 4; what++) {
            seen.append(' ').append(x.problem(what));
        }
        int count = x.count();
        seen.append(" count ").append(count);
        for (int i = 0; i < count && i < MOST_ROWS; i++) {
            seen.append(" (").append(Checks.rowOf(x, i)).append(')');
        }
        seen.append(" pins");
        int length = x.problem(0);
        for (int p = 0; p < length; p++) {
            seen.append(' ').append(x.pin(p, 0));
        }
    }
}
