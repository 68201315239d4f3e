import java.util.Random;

/** Runs of calls, chosen by fixed seeds, on the class and on the model: the answers must be the same. */
public final class ModelTest {
    private static final int RUNS = 2000;
    /** What an object answers after its 512th call is free. */
    private static final int CALLS = 512;
    /** A row is wiped, said with at most 18 characters, and asked of. */
    private static final int MOST_AT_ONCE = 20;
    private static final int[] EXTREMES = {
        Integer.MIN_VALUE, Integer.MIN_VALUE + 1, -1000, -6, -5, -3, 31, 32, 33, 63, 64, 300, 511, 512, 513,
        1 << 17, 1 << 18, 1 << 30, Integer.MAX_VALUE - 1, Integer.MAX_VALUE
    };

    private final Checks checks;
    private final Random random;
    private final String run;
    private final SpacedPairs x = new SpacedPairs();
    private final Model m = new Model();
    private int calls = 0;

    private ModelTest(Checks checks, int seed) {
        this.checks = checks;
        random = new Random(seed);
        run = "run " + seed + ": ";
    }

    public static void main(String[] args) {
        Checks checks = new Checks();
        for (int seed = 0; seed < RUNS && !checks.hasWrong(); seed++) {
            ModelTest test = new ModelTest(checks, seed);
            while (test.calls < CALLS && !checks.hasWrong()) {
                test.go();
            }
        }
        checks.finish();
    }

    private void due(String call, int got, int want) {
        calls++;
        checks.due(run + call, got, want);
    }

    private void go() {
        if (calls + MOST_AT_ONCE <= CALLS) {
            call();
        } else {
            ask(random.nextInt(26));
        }
    }

    /** Mostly from low to high, sometimes just outside, seldom far outside. */
    private int pick(int low, int high) {
        int kind = random.nextInt(20);
        if (kind == 0) {
            return EXTREMES[random.nextInt(EXTREMES.length)];
        }
        if (kind == 1) {
            return random.nextBoolean() ? low - 1 - random.nextInt(2) : high + 1 + random.nextInt(2);
        }
        return high < low ? low : low + random.nextInt(high - low + 1);
    }

    private int position() {
        return pick(0, m.problem(0) - 1);
    }

    private int number() {
        return pick(0, m.count() - 1);
    }

    private int lowNumber() {
        return pick(0, Math.min(m.count(), 303) - 1);
    }

    private int difference() {
        int set = m.problem(2);
        int wanted = random.nextInt(Integer.bitCount(set));
        if (random.nextInt(8) == 0) {
            return pick(0, 17);
        }
        for (int d = 1; d <= 17; d++) {
            if ((set >> d & 1) != 0 && wanted-- == 0) {
                return d;
            }
        }
        return 0;
    }

    private void call() {
        int kind = random.nextInt(100);
        if (kind < 8) {
            pose();
        } else if (kind < 20) {
            pin();
        } else if (kind < 40) {
            text();
        } else {
            ask(random.nextInt(26));
        }
    }

    private void pose() {
        boolean hooked = random.nextBoolean();
        switch (random.nextInt(7)) {
            case 0: {
                int first = random.nextInt(3) == 0 ? pick(1, 10) : pick(1, 3);
                int count = pick(1, 8);
                due("langford(" + first + ", " + count + ", " + hooked + ")",
                    x.langford(first, count, hooked), m.langford(first, count, hooked));
                break;
            }
            case 1: {
                int greatest = pick(2, 9);
                int omitted = pick(1, Math.max(1, Math.min(greatest, 9)));
                due("near(" + greatest + ", " + omitted + ", " + hooked + ")",
                    x.near(greatest, omitted, hooked), m.near(greatest, omitted, hooked));
                break;
            }
            case 2: {
                int length = pick(1, 18);
                int holes = random.nextInt(8) == 0 ? random.nextInt() : random.nextInt(1 << Math.max(1, Math.min(length, 19)));
                int differences = random.nextInt(8) == 0 ? random.nextInt() : random.nextInt() & random.nextInt() & 0x3FFFE;
                set(length, holes, differences);
                break;
            }
            case 3:
            case 4:
                setSolvable();
                break;
            case 5: {
                int slot = pick(0, 1);
                due("save(" + slot + ")", x.save(slot), m.save(slot));
                break;
            }
            default: {
                int slot = pick(0, 1);
                due("restore(" + slot + ")", x.restore(slot), m.restore(slot));
                break;
            }
        }
    }

    private void set(int length, int holes, int differences) {
        due("set(" + length + ", " + holes + ", " + differences + ")",
            x.set(length, holes, differences), m.set(length, holes, differences));
    }

    /** Lays pairs at random until none fits, and makes what is left holes. */
    private void setSolvable() {
        int length = 4 + random.nextInt(15);
        int free = (1 << length) - 1;
        int differences = 0;
        for (int i = 0; i < 400 && Integer.bitCount(differences) < 8; i++) {
            int d = 1 + random.nextInt(Math.min(17, length - 1));
            int s = random.nextInt(length - d);
            int pair = 1 << s | 1 << (s + d);
            if ((differences >> d & 1) == 0 && (free & pair) == pair) {
                differences |= 1 << d;
                free &= ~pair;
            }
        }
        set(length, free, differences);
    }

    private void pin() {
        int position = position();
        int kind = random.nextInt(10);
        int difference = kind < 4 ? 0 : kind == 4 ? pick(0, 17) : difference();
        if (kind > 6 && m.count() > 0) {
            int row = random.nextInt(m.count());
            difference = Math.max(0, m.at(row, position));
        }
        due("pin(" + position + ", " + difference + ")", x.pin(position, difference), m.pin(position, difference));
    }

    private void text() {
        switch (random.nextInt(6)) {
            case 0: {
                int number = number();
                due("spell(" + number + ")", x.spell(number), m.spell(number));
                break;
            }
            case 1:
                due("wipe()", x.wipe(), m.wipe());
                break;
            case 2: {
                int character = pick(33, 126);
                due("say(" + character + ")", x.say(character), m.say(character));
                break;
            }
            case 3:
                sayRowWithChanges();
                break;
            default: {
                String signs = ".123456789abcdefgh?ij0";
                int character = signs.charAt(random.nextInt(signs.length()));
                due("say(" + character + ")", x.say(character), m.say(character));
                break;
            }
        }
        askText(random.nextInt(5));
    }

    /** Says a row that nearly fits, so that each rule and each pattern has its turn. */
    private void sayRowWithChanges() {
        due("wipe()", x.wipe(), m.wipe());
        int length = m.problem(0);
        int holes = m.problem(1);
        int row = m.count() > 0 ? random.nextInt(m.count()) : -1;
        int oddness = random.nextInt(3);
        boolean isPattern = random.nextBoolean();
        for (int p = 0; p < length; p++) {
            int d = row >= 0 ? m.at(row, p) : (holes >> p & 1) != 0 ? 0 : difference();
            if (oddness > 0 && random.nextInt(8) == 0) {
                d = random.nextInt(18);
            } else if (oddness > 0 && random.nextInt(8) == 0) {
                d = difference();
            }
            int character = ".123456789abcdefgh".charAt(Math.min(17, Math.max(0, d)));
            if (isPattern && random.nextInt(3) > 0) {
                character = '?';
            }
            due("say(" + character + ")", x.say(character), m.say(character));
        }
    }

    private void askText(int which) {
        switch (which) {
            case 0: due("fault()", x.fault(), m.fault()); break;
            case 1: {
                int what = pick(0, 1);
                due("judge(" + what + ")", x.judge(what), m.judge(what));
                break;
            }
            case 2: due("rank()", x.rank(), m.rank()); break;
            case 3: {
                int index = pick(-1, 5);
                due("match(" + index + ")", x.match(index), m.match(index));
                break;
            }
            default: {
                int index = pick(0, 17);
                due("letter(" + index + ")", x.letter(index), m.letter(index));
                break;
            }
        }
    }

    private void ask(int which) {
        int number = number();
        int position = position();
        int difference = difference();
        int index = pick(-1, 5);
        switch (which) {
            case 0: due("problem(" + index + ")", x.problem(index), m.problem(index)); break;
            case 1: due("startSum()", x.startSum(), m.startSum()); break;
            case 2: due("slack()", x.slack(), m.slack()); break;
            case 3: due("starts(" + difference + ")", x.starts(difference), m.starts(difference)); break;
            case 4: due("count()", x.count(), m.count()); break;
            case 5:
            case 6: due("at(" + number + ", " + position + ")", x.at(number, position), m.at(number, position)); break;
            case 7:
            case 8: due("start(" + number + ", " + difference + ")", x.start(number, difference), m.start(number, difference)); break;
            case 9: due("frequency(" + position + ", " + difference + ")", x.frequency(position, difference), m.frequency(position, difference)); break;
            case 10: due("options(" + position + ")", x.options(position), m.options(position)); break;
            case 11: due("forced()", x.forced(), m.forced()); break;
            case 12:
            case 13: due("reversed(" + number + ")", x.reversed(number), m.reversed(number)); break;
            case 14: due("classes()", x.classes(), m.classes()); break;
            case 15:
            case 16: {
                int other = number();
                due("distance(" + number + ", " + other + ")", x.distance(number, other), m.distance(number, other));
                break;
            }
            case 17:
            case 18: due("neighbour(" + number + ", " + index + ")", x.neighbour(number, index), m.neighbour(number, index)); break;
            case 19: {
                int one = lowNumber();
                int other = lowNumber();
                due("steps(" + one + ", " + other + ")", x.steps(one, other), m.steps(one, other));
                break;
            }
            case 20:
            case 21: {
                int what = pick(0, 2);
                due("triple(" + number + ", " + difference + ", " + what + ")", x.triple(number, difference, what), m.triple(number, difference, what));
                break;
            }
            case 22: due("cover(" + number + ")", x.cover(number), m.cover(number)); break;
            case 23: due("hooks()", x.hooks(), m.hooks()); break;
            case 24: due("omissions()", x.omissions(), m.omissions()); break;
            default: askText(random.nextInt(5)); break;
        }
    }
}
