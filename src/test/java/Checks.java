/** Counts the answers of a test, prints the wrong ones, and ends the test with its exit code. */
final class Checks {
    private static final int MOST_PRINTED = 50;

    private int right = 0;
    private int wrong = 0;

    void due(String call, long got, long want) {
        dueText(call, Long.toString(got), Long.toString(want));
    }

    void dueText(String call, String got, String want) {
        if (got.equals(want)) {
            right++;
            return;
        }
        wrong++;
        if (wrong <= MOST_PRINTED) {
            System.out.println(call + " answered " + got + ", due is " + want);
        }
    }

    boolean hasWrong() {
        return wrong > 0;
    }

    void finish() {
        System.out.println(right + " answers as due, " + wrong + " not as due");
        if (wrong > 0 || right == 0) {
            System.exit(1);
        }
    }

    static void sayAll(SpacedPairs x, String text) {
        x.wipe();
        for (int i = 0; i < text.length(); i++) {
            x.say(text.charAt(i));
        }
    }

    static String padOf(SpacedPairs x) {
        StringBuilder text = new StringBuilder();
        int length = x.problem(5);
        for (int i = 0; i < length; i++) {
            text.append((char) x.letter(i));
        }
        return text.toString();
    }

    /** The row of an arrangement as its numbers, one after the other. */
    static String rowOf(SpacedPairs x, int number) {
        StringBuilder row = new StringBuilder();
        int length = x.problem(0);
        for (int p = 0; p < length; p++) {
            row.append(p == 0 ? "" : " ").append(x.at(number, p));
        }
        return row.toString();
    }

    /** All that can be told of the problem, its pins and the pad; the pins are set again as they were. */
    static String stateOf(SpacedPairs x) {
        StringBuilder state = new StringBuilder();
        for (int what = 0; what <= 5; what++) {
            state.append(x.problem(what)).append(' ');
        }
        int length = x.problem(0);
        for (int p = 0; p < length; p++) {
            int pin = x.pin(p, 0);
            x.pin(p, pin);
            state.append(pin).append(' ');
        }
        return state.append(padOf(x)).toString();
    }
}
