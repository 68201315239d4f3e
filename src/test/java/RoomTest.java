import java.util.stream.IntStream;

/**
 * The class has room for 512 arrangements: counts all problems with eight differences, in another
 * way than the class, and asks the class for those that have the most of them.
 * (Problems with fewer differences have at most 128; counting them takes too long for each run.)
 */
public final class RoomTest {
    private static final int PAIRS = 8;
    private static final int ROOM = 512;

    public static void main(String[] args) {
        Checks checks = new Checks();
        int[] most = IntStream.range(0, 1 << 17).parallel()
            .filter(set -> Integer.bitCount(set) == PAIRS)
            .map(set -> mostOf(set << 1))
            .toArray();
        checks.due("sets of eight differences", most.length, 24310);
        checks.due("the most arrangements", IntStream.of(most).max().orElse(0), ROOM);
        SpacedPairs x = new SpacedPairs();
        x.set(16, 0, 0x4FE);
        checks.due("count() of them", x.count(), ROOM);
        Model m = new Model();
        m.set(16, 0, 0x4FE);
        checks.dueText("the last of them", Checks.rowOf(x, ROOM - 1), rowOf(m, ROOM - 1));
        checks.finish();
    }

    private static String rowOf(Model m, int number) {
        StringBuilder row = new StringBuilder();
        for (int p = 0; p < m.problem(0); p++) {
            row.append(p == 0 ? "" : " ").append(m.at(number, p));
        }
        return row.toString();
    }

    private static int mostOf(int differences) {
        int most = 0;
        for (int length = 2 * PAIRS; length <= 18; length++) {
            for (int free = 0; free < 1 << length; free++) {
                if (Integer.bitCount(free) == 2 * PAIRS) {
                    most = Math.max(most, arrangements(differences, free));
                }
            }
        }
        return most;
    }

    private static int arrangements(int differences, int free) {
        if (differences == 0) {
            return 1;
        }
        int greatest = 31 - Integer.numberOfLeadingZeros(differences);
        int count = 0;
        for (int starts = free & free >> greatest; starts != 0; starts &= starts - 1) {
            int start = starts & -starts;
            count += arrangements(differences & ~(1 << greatest), free & ~(start | start << greatest));
        }
        return count;
    }
}
