import java.lang.reflect.Method;
import java.lang.reflect.Modifier;
import java.util.LinkedHashMap;
import java.util.Map;
import java.util.function.Supplier;
import java.util.function.ToIntFunction;

/** What holds for all methods: "What it is", the conventions, and "Not promised". */
final class ConventionEdges {
    private static final int NO_SUCH = SpacedPairs.NO_SUCH;
    private static final int BAD_VALUE = SpacedPairs.BAD_VALUE;
    private static final int BAD_TEXT = SpacedPairs.BAD_TEXT;
    private static final int NOT_POSSIBLE = SpacedPairs.NOT_POSSIBLE;
    private static final int NONE = SpacedPairs.NONE;
    private static final int MOST_CALLS = 512;
    private static final String WHAT = "What it is";
    private static final String WORDS = "Description";
    private static final String FREE = "Not promised";

    private final Edges e;

    private ConventionEdges(Edges edges) {
        e = edges;
    }

    static void test(Edges edges) {
        ConventionEdges t = new ConventionEdges(edges);
        t.kinds();
        t.conditions();
        t.calls();
        t.laterCalls();
        t.integers();
        t.errors();
        t.errorsInARow();
        t.order();
        t.noneIsNoError();
        t.noneOnlyWithoutError();
        t.masksOfPositions();
        t.masksOfDifferences();
        t.nothingElse();
        t.nothingElseChanges();
    }

    private static SpacedPairs most() {
        return Made.set(16, 0, 0x4FE);
    }

    private static SpacedPairs fullPad() {
        return Made.saying(Made.busy(), "4!".repeat(9));
    }

    private void kinds() {
        e.sentence(WHAT, "Arrangements of pairs at given distances, as Skolem and Langford studied them: also hooked, extended and with"
            + " differences left out");
        int[] skolem = {1, 0, 0, 6, 10, 0, 0, 504};
        int[] langford = {0, 0, 2, 2, 0, 0, 52, 300};
        for (int n = 1; n <= 8; n++) {
            int ends = (1 << n) - 1;
            e.due("Skolem's of " + n, Made.langford(1, n, false).count(), skolem[n - 1]);
            e.due("Langford's of " + n, Made.langford(2, n, false).count(), langford[n - 1]);
            e.due("hooked and extended of " + n, Made.langford(1, n, true).count(), Made.set(2 * n + 1, 1 << (2 * n - 1), ends << 1).count());
            e.due("extended at its end of " + n, Made.set(2 * n + 1, 1 << (2 * n), ends << 1).count(), skolem[n - 1]);
            e.due("extended in front of " + n, Made.set(2 * n + 1, 1, ends << 2).count(), langford[n - 1]);
        }
        for (int n = 2; n <= 9; n++) {
            e.due("near Langford's, which are Langford's, of " + n, Made.near(n, 1, false).count(), langford[n - 2]);
            e.due("near Skolem's without the greatest of " + n, Made.near(n, n, false).count(), skolem[n - 2]);
        }
    }

    /** Where a condition fails that can be told without a search, the search finds nothing. */
    private void conditions() {
        e.sentence(WHAT, "conditions that can be told without a search, exact counts, arrangements by their numbers, pins, patterns,"
            + " neighbours and reversals, and the difference triples that such arrangements give");
        int failing = 0;
        int solvable = 0;
        int wrong = 0;
        for (int length = 1; length <= 9; length++) {
            for (int holes = 0; holes < 1 << length; holes++) {
                for (int differences = 2; differences < 1 << 8; differences += 2) {
                    if (length - Integer.bitCount(holes) == 2 * Integer.bitCount(differences)) {
                        SpacedPairs x = Made.set(length, holes, differences);
                        boolean fails = x.startSum() == NONE || x.slack() < 1000;
                        failing += fails ? 1 : 0;
                        solvable += x.count() > 0 ? 1 : 0;
                        wrong += fails && x.count() > 0 ? 1 : 0;
                    }
                }
            }
        }
        e.due("problems with arrangements though a condition fails", wrong, 0);
        e.due("problems of which a condition fails", Math.min(failing, 1), 1);
        e.due("problems with arrangements", Math.min(solvable, 1), 1);
    }

    private void calls() {
        e.sentence(WHAT, "An object is used for at most 512 calls after it has been made");
        Map<String, ToIntFunction<SpacedPairs>> asked = asked();
        for (String call : asked.keySet()) {
            ToIntFunction<SpacedPairs> called = asked.get(call);
            SpacedPairs x = most();
            x.spell(511);
            int first = called.applyAsInt(x);
            int others = 0;
            for (int used = 3; used < MOST_CALLS; used++) {
                others += called.applyAsInt(x) == first ? 0 : 1;
            }
            e.due("other answers than the first one of the calls up to the 512th, " + call, others, 0);
        }
        SpacedPairs x = new SpacedPairs();
        int used = 0;
        for (; used + 5 <= MOST_CALLS; used += 5) {
            int d = 1 + used / 5 % 8;
            x.langford(1, 8, used % 2 == 0);
            x.save(used % 2);
            x.set(18, 0x30000, 0x4FE);
            x.pin(0, d);
            e.due("count() of 512 with the pin " + d + " after " + used + " calls", x.count(), Made.pinned(most(), 0, d).count());
        }
        x.restore(0);
        e.due("the 512th call", used + 2 == MOST_CALLS ? x.problem(2) : 0, 0x1FE);
    }

    /** What they answer is free; that they answer is asked of every call. */
    private void laterCalls() {
        SpacedPairs x = most();
        int answers = 0;
        for (int round = 0; round < 40; round++) {
            for (ToIntFunction<SpacedPairs> called : asked().values()) {
                called.applyAsInt(x);
                answers++;
            }
            for (ToIntFunction<SpacedPairs> called : failing().values()) {
                called.applyAsInt(x);
                answers++;
            }
            x.say('?');
        }
        e.due("answers, also after the 512th", Math.min(answers, MOST_CALLS + 1), MOST_CALLS + 1);
        e.promisesNothing(WHAT, "what later calls answer is free");
    }

    private void integers() {
        e.sentence(WORDS, "All numbers are integers");
        for (Method m : SpacedPairs.class.getDeclaredMethods()) {
            if (Modifier.isPublic(m.getModifiers())) {
                e.dueText("what " + m.getName() + "() returns", m.getReturnType().getName(), "int");
                for (Class<?> type : m.getParameterTypes()) {
                    boolean isNumber = type != boolean.class;
                    e.dueText("a number that " + m.getName() + "() takes", isNumber ? type.getName() : "int", "int");
                }
            }
        }
        e.due("a sum that is none", Made.langford(1, 2, false).startSum(), NONE);
    }

    /** A call that fails of each kind of error of each method, on an object as Made.busy() makes it. */
    private static Map<String, ToIntFunction<SpacedPairs>> failing() {
        Map<String, ToIntFunction<SpacedPairs>> calls = new LinkedHashMap<>();
        calls.put("-2 of set(0, 0, 2)", x -> x.set(0, 0, 2));
        calls.put("-2 of set(2, 4, 2)", x -> x.set(2, 4, 2));
        calls.put("-2 of set(2, 0, 1)", x -> x.set(2, 0, 1));
        calls.put("-2 of langford(0, 1, false)", x -> x.langford(0, 1, false));
        calls.put("-2 of langford(1, 9, true)", x -> x.langford(1, 9, true));
        calls.put("-2 of near(1, 1, false)", x -> x.near(1, 1, false));
        calls.put("-2 of near(2, 3, true)", x -> x.near(2, 3, true));
        calls.put("-1 of pin(18, 1)", x -> x.pin(18, 1));
        calls.put("-2 of pin(0, 18)", x -> x.pin(0, 18));
        calls.put("-2 of problem(6)", x -> x.problem(6));
        calls.put("-1 of starts(9)", x -> x.starts(9));
        calls.put("-1 of at(0, 18)", x -> x.at(0, 18));
        calls.put("-1 of start(0, 9)", x -> x.start(0, 9));
        calls.put("-1 of frequency(18, 1)", x -> x.frequency(18, 1));
        calls.put("-2 of frequency(0, 18)", x -> x.frequency(0, 18));
        calls.put("-1 of options(18)", x -> x.options(18));
        calls.put("-2 of say(32)", x -> x.say(32));
        calls.put("-2 of judge(2)", x -> x.judge(2));
        calls.put("-3 of judge(0)", x -> x.judge(0));
        calls.put("-3 of judge(1)", x -> x.judge(1));
        calls.put("-3 of rank()", SpacedPairs::rank);
        calls.put("-3 of match(-1)", x -> x.match(-1));
        calls.put("-1 of spell(512)", x -> x.spell(512));
        calls.put("-1 of reversed(512)", x -> x.reversed(512));
        calls.put("-1 of distance(0, 512)", x -> x.distance(0, 512));
        calls.put("-1 of distance(512, 0)", x -> x.distance(512, 0));
        calls.put("-1 of neighbour(512, -1)", x -> x.neighbour(512, -1));
        calls.put("-1 of steps(512, 0)", x -> x.steps(512, 0));
        calls.put("-1 of steps(0, 512)", x -> x.steps(0, 512));
        calls.put("-1 of triple(512, 1, 0)", x -> x.triple(512, 1, 0));
        calls.put("-1 of triple(0, 9, 0)", x -> x.triple(0, 9, 0));
        calls.put("-2 of triple(0, 1, 3)", x -> x.triple(0, 1, 3));
        calls.put("-1 of cover(512)", x -> x.cover(512));
        calls.put("-2 of save(2)", x -> x.save(2));
        calls.put("-2 of restore(2)", x -> x.restore(2));
        calls.put("-5 of restore(1)", x -> x.restore(1));
        return calls;
    }

    private static int codeOf(String failing) {
        return Integer.parseInt(failing.substring(0, failing.indexOf(' ')));
    }

    private void errors() {
        e.sentence(WORDS, "A method that fails returns one of the error codes NO_SUCH (-1), BAD_VALUE (-2), BAD_TEXT (-3) and"
            + " NOT_POSSIBLE (-5) and changes nothing");
        failing().forEach((call, called) -> e.unchanged(call, called, codeOf(call)));
        e.unchanged(ConventionEdges::fullPad, "say() on a full pad", x -> x.say('1'), NOT_POSSIBLE);
        e.unchanged(ConventionEdges::most, "steps() from the 300th of 512", x -> x.steps(300, 0), BAD_VALUE);
        e.unchanged(ConventionEdges::most, "steps() to the 300th of 512", x -> x.steps(0, 300), BAD_VALUE);
        e.due("NO_SUCH", NO_SUCH, -1);
        e.due("BAD_VALUE", BAD_VALUE, -2);
        e.due("BAD_TEXT", BAD_TEXT, -3);
        e.due("NOT_POSSIBLE", NOT_POSSIBLE, -5);
    }

    private void errorsInARow() {
        SpacedPairs x = Made.busy();
        failing().forEach((call, called) -> e.due(call, called.applyAsInt(x), codeOf(call)));
        e.dueText("all after all calls that fail", Witness.of(x), Witness.of(Made.busy()));
    }

    private void order() {
        e.sentence(WORDS, "it names its errors in the order in which they are checked, and the first that applies is returned");
        e.unchanged("pin(8, 18)", x -> x.pin(8, 18), NO_SUCH);
        e.unchanged("frequency(8, 18)", x -> x.frequency(8, 18), NO_SUCH);
        e.unchanged(ConventionEdges::fullPad, "say(32) on a full pad", x -> x.say(32), BAD_VALUE);
        e.unchanged(ConventionEdges::fullPad, "judge(2) of no row", x -> x.judge(2), BAD_VALUE);
        for (int other : new int[] {512, -1, Integer.MAX_VALUE}) {
            e.unchanged(ConventionEdges::most, "steps(300, " + other + ")", x -> x.steps(300, other), NO_SUCH);
            e.unchanged(ConventionEdges::most, "steps(" + other + ", 511)", x -> x.steps(other, 511), NO_SUCH);
        }
        e.unchanged("triple(0, 5, 3)", x -> x.triple(0, 5, 3), NO_SUCH);
        e.unchanged("triple(2, 1, 3)", x -> x.triple(2, 1, 3), NO_SUCH);
        e.unchanged("triple(2, 5, -1)", x -> x.triple(2, 5, -1), NO_SUCH);
        e.unchanged(SpacedPairs::new, "restore(2) where nothing was saved", x -> x.restore(2), BAD_VALUE);
    }

    private static SpacedPairs everyRow() {
        return Made.saying(Made.busy(), "????????");
    }

    private void noneIsNoError() {
        e.sentence(WORDS, "NONE (-6) is not an error");
        e.due("NONE", NONE, -6);
        e.unchanged(() -> Made.langford(1, 2, false), "startSum()", SpacedPairs::startSum, NONE);
        e.unchanged(() -> Made.set(3, 0, 2), "slack()", SpacedPairs::slack, NONE);
        e.unchanged("at(2, 0)", x -> x.at(2, 0), NONE);
        e.unchanged("start(2, 1)", x -> x.start(2, 1), NONE);
        e.unchanged(ConventionEdges::everyRow, "fault()", SpacedPairs::fault, NONE);
        e.unchanged(Made::busyWithRow, "judge(1)", x -> x.judge(1), NONE);
        e.unchanged(() -> Made.saying(Made.busy(), "........"), "rank()", SpacedPairs::rank, NONE);
        e.unchanged(ConventionEdges::everyRow, "match(2)", x -> x.match(2), NONE);
        e.unchanged("letter(4)", x -> x.letter(4), NONE);
        e.unchanged("reversed(0)", x -> x.reversed(0), NONE);
        e.unchanged("neighbour(0, 1)", x -> x.neighbour(0, 1), NONE);
        e.unchanged(() -> Made.langford(1, 8, false), "steps(0, 1) of 504", x -> x.steps(0, 1), NONE);
    }

    private void noneOnlyWithoutError() {
        e.sentence(WORDS, "it is returned only if no error applies");
        for (int number : new int[] {2, -1, 512, Integer.MIN_VALUE, Integer.MAX_VALUE}) {
            e.due("at(" + number + ", 8)", Made.busy().at(number, 8), NO_SUCH);
            e.due("at(" + number + ", 7)", Made.busy().at(number, 7), NONE);
            e.due("start(" + number + ", 5)", Made.busy().start(number, 5), NO_SUCH);
            e.due("start(" + number + ", 4)", Made.busy().start(number, 4), NONE);
            e.due("match(" + number + ") of a text with a fault", Made.busy().match(number), BAD_TEXT);
            e.due("reversed(" + number + ")", Made.busy().reversed(number), NO_SUCH);
            e.due("neighbour(" + number + ", 9)", Made.busy().neighbour(number, 9), NO_SUCH);
            e.due("steps(" + number + ", 1)", Made.busy().steps(number, 1), NO_SUCH);
        }
        e.due("judge(1) of a text with a fault", Made.busy().judge(1), BAD_TEXT);
        e.due("rank() of a text with a fault", Made.busy().rank(), BAD_TEXT);
        e.due("rank() of a text with ?", everyRow().rank(), BAD_TEXT);
        e.due("steps(0, 1) of 504, where no step leads", Made.langford(1, 8, false).steps(0, 1), NONE);
        e.due("steps(0, 300) of 504, where no step leads", Made.langford(1, 8, false).steps(0, 300), BAD_VALUE);
    }

    private void masksOfPositions() {
        e.sentence(WORDS, "Sets of positions and of differences are bit masks: bit k stands for position k, or for the difference k");
        for (int k = 0; k < 18; k++) {
            SpacedPairs x = Made.set(18, 1 << k, 2);
            e.due("the hole " + k, x.problem(1), 1 << k);
            Made.pinned(x, k, 17);
            e.due("the pin " + k, x.problem(3), 1 << k);
        }
        for (int k = 0; k < 17; k++) {
            SpacedPairs x = Made.set(18, 0x3FFFF & ~(3 << k), 2);
            e.due("starts(1) at " + k, x.starts(1), 1 << k);
            e.due("forced() at " + k, x.forced(), 3 << k);
            e.due("at(0, " + k + ")", x.at(0, k), 1);
            int bit = Made.langford(1, 8, false).hooks() >> k & 1;
            e.due("hooks() at " + k, bit, Math.min(Made.set(17, 1 << k, 0x1FE).count(), 1));
        }
    }

    private void masksOfDifferences() {
        for (int k = 1; k <= 17; k++) {
            int ends = 1 << k | 1;
            SpacedPairs x = Made.set(18, 0x3FFFF & ~ends, 1 << k);
            e.due("the difference " + k, x.problem(2), 1 << k);
            e.due("options(0) of " + k, x.options(0), 1 << k);
            e.due("options(" + k + ") of " + k, x.options(k), 1 << k);
            for (int d = 1; d <= 17; d++) {
                e.due("starts(" + d + ") of " + k, x.starts(d), d == k ? 1 : NO_SUCH);
            }
            int omissions = k == 1 ? 0 : 1 << k;
            e.due("omissions() of 1 and " + k, Made.set(2, 0, 2 | 1 << k).omissions(), omissions);
        }
    }

    /** A call of each method that only asks, none of which fails while there are 512 arrangements. */
    private static Map<String, ToIntFunction<SpacedPairs>> asked() {
        Map<String, ToIntFunction<SpacedPairs>> calls = new LinkedHashMap<>();
        calls.put("problem(3)", x -> x.problem(3));
        calls.put("startSum()", SpacedPairs::startSum);
        calls.put("slack()", SpacedPairs::slack);
        calls.put("starts(1)", x -> x.starts(1));
        calls.put("count()", SpacedPairs::count);
        calls.put("at(1, 7)", x -> x.at(1, 7));
        calls.put("start(1, 1)", x -> x.start(1, 1));
        calls.put("frequency(1, 2)", x -> x.frequency(1, 2));
        calls.put("options(1)", x -> x.options(1));
        calls.put("forced()", SpacedPairs::forced);
        calls.put("fault()", SpacedPairs::fault);
        calls.put("judge(0)", x -> x.judge(0));
        calls.put("rank()", SpacedPairs::rank);
        calls.put("match(-1)", x -> x.match(-1));
        calls.put("letter(0)", x -> x.letter(0));
        calls.put("reversed(1)", x -> x.reversed(1));
        calls.put("classes()", SpacedPairs::classes);
        calls.put("distance(0, 1)", x -> x.distance(0, 1));
        calls.put("neighbour(1, 0)", x -> x.neighbour(1, 0));
        calls.put("steps(1, 0)", x -> x.steps(1, 0));
        calls.put("triple(1, 4, 2)", x -> x.triple(1, 4, 2));
        calls.put("cover(1)", x -> x.cover(1));
        calls.put("hooks()", SpacedPairs::hooks);
        calls.put("omissions()", SpacedPairs::omissions);
        return calls;
    }

    private void nothingElse() {
        e.sentence(FREE, "Nothing is promised beyond the answers and state changes described above, and nothing about an object after its"
            + " 512th call");
        asked().forEach((call, called) -> {
            e.unchanged(Made::busyWithRow, call, called, called.applyAsInt(Made.busyWithRow()));
            e.unchanged(call, called, called.applyAsInt(Made.busy()));
        });
        e.promisesNothing(FREE, "How the state is held inside the object is free, as are the speed of each call, the text of toString and"
            + " the behaviour of equals and hashCode");
        e.promisesNothing(FREE, "Use of one object from several threads at once is not promised to be safe");
    }

    private void dueSame(String call, ToIntFunction<SpacedPairs> called, Supplier<SpacedPairs> other) {
        SpacedPairs x = Made.busy();
        called.applyAsInt(x);
        e.dueText("all after " + call, Witness.of(x), Witness.of(other.get()));
    }

    /** The pad and the slots of Made.busy(), made before the problem. */
    private static SpacedPairs busyBut(ToIntFunction<SpacedPairs> posed) {
        SpacedPairs x = Made.pinned(Made.langford(1, 3, true), 6, 3);
        x.save(0);
        Made.saying(x, "4?.!");
        posed.applyAsInt(x);
        return x;
    }

    private void nothingElseChanges() {
        dueSame("set()", x -> x.set(5, 8, 6), () -> busyBut(x -> x.set(5, 8, 6)));
        dueSame("langford()", x -> x.langford(2, 3, false), () -> busyBut(x -> x.set(6, 0, 0b11100)));
        dueSame("near()", x -> x.near(4, 1, true), () -> busyBut(x -> x.set(7, 1 << 5, 0b11100)));
        dueSame("pin()", x -> x.pin(1, 2), () -> Made.pinned(Made.pinned(busyBut(x -> x.langford(1, 4, false)), 1, 2), 0, 4));
        dueSame("pin() to remove one", x -> x.pin(0, 0), () -> busyBut(x -> x.langford(1, 4, false)));
        dueSame("say()", x -> x.say('~'), () -> Made.saying(Made.busy(), "4?.!~"));
        dueSame("wipe()", SpacedPairs::wipe, () -> Made.saying(Made.busy(), ""));
        dueSame("spell(0)", x -> x.spell(0), () -> Made.saying(Made.busy(), "41134232"));
        dueSame("restore(0)", x -> x.restore(0), () -> Made.pinned(busyBut(x -> x.langford(1, 3, true)), 6, 3));
        dueSame("save(1), restore(0), restore(1)", x -> x.save(1) + x.restore(0) + x.restore(1), () -> {
            SpacedPairs x = Made.busy();
            x.save(1);
            return x;
        });
    }
}
