/** Counts the answers of a test, prints the wrong ones, and ends the test with its exit code. */
final class Checks {
    private int right = 0;
    private int wrong = 0;

    void due(String call, long got, long want) {
        if (got == want) {
            right++;
            return;
        }
        wrong++;
        if (wrong <= 50) {
            System.out.println(call + " answered " + got + ", due is " + want);
        }
    }

    boolean hasWrong() {
        return wrong > 0;
    }

    void finish() {
        System.out.println(right + " answers as due, " + wrong + " not as due");
        if (wrong > 0 || right == 0) {
            System.exit(1);
        }
    }
}
