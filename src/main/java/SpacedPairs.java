/**
 * Arrangements of pairs at given distances, as Skolem and Langford studied them.
 * Every row that the object works with is made in a constructor, so that no call makes any.
 */
public final class SpacedPairs {
    public static final int NO_SUCH = -1, BAD_VALUE = -2, BAD_TEXT = -3, NOT_POSSIBLE = -5, NONE = -6;

    private static final int MOST_POSITIONS = 18;
    private static final int MOST_PAIRS = 8;
    private static final int GREATEST_DIFFERENCE = 17;
    /**
     * No problem has more: a count of all problems within the limits found the greatest number
     * for the differences 1 to 7 and 10 with the length 16. Pins only make it smaller.
     */
    private static final int MOST_ARRANGEMENTS = 512;

    private static final int GREATEST_FIRST = 10;
    private static final int LEAST_NEAR = 2;
    private static final int GREATEST_NEAR = 9;
    private static final int LEAST_CODE = 33;
    private static final int GREATEST_CODE = 126;
    private static final int SLACK_OFFSET = 1000;
    private static final int RULES = 5;
    private static final int NEIGHBOUR_DISTANCE = 3;
    private static final int WALKED_ARRANGEMENTS = 300;
    private static final int SLOTS = 2;
    private static final int GREATEST_ELEMENT = 30;

    private final Problem problem;
    private final Arrangements found;
    private final Walk walk;
    private final Pad pad;
    private final Problem trial;
    private final Arrangements sample;
    /** A slot in which nothing was saved holds a problem without positions. */
    private final Problem[] slots;
    /** Whether the problem or its pins may have changed since the last search. */
    private boolean foundIsOld;

    public SpacedPairs() {
        problem = new Problem();
        problem.become(2, 0, range(1, 1));
        found = new Arrangements(MOST_ARRANGEMENTS);
        walk = new Walk();
        pad = new Pad();
        trial = new Problem();
        sample = new Arrangements(1);
        slots = new Problem[SLOTS];
        for (int i = 0; i < SLOTS; i++) {
            slots[i] = new Problem();
        }
        foundIsOld = true;
    }

    // ---- problems

    public int set(int length, int holes, int differences) {
        if (length < 1 || length > MOST_POSITIONS) {
            return BAD_VALUE;
        }
        if ((holes & ~range(0, length - 1)) != 0) {
            return BAD_VALUE;
        }
        if ((differences & ~range(1, GREATEST_DIFFERENCE)) != 0) {
            return BAD_VALUE;
        }
        int pairs = Integer.bitCount(differences);
        if (pairs < 1 || pairs > MOST_PAIRS) {
            return BAD_VALUE;
        }
        pose(length, holes, differences);
        return pairs;
    }

    public int langford(int first, int count, boolean hooked) {
        if (first < 1 || first > GREATEST_FIRST || count < 1 || count > MOST_PAIRS) {
            return BAD_VALUE;
        }
        return poseTight(range(first, first + count - 1), hooked);
    }

    public int near(int greatest, int omitted, boolean hooked) {
        if (greatest < LEAST_NEAR || greatest > GREATEST_NEAR || omitted < 1 || omitted > greatest) {
            return BAD_VALUE;
        }
        return poseTight(range(1, greatest) & ~(1 << omitted), hooked);
    }

    public int pin(int position, int difference) {
        if (!problem.hasPosition(position)) {
            return NO_SUCH;
        }
        if (difference < 0 || difference > GREATEST_DIFFERENCE) {
            return BAD_VALUE;
        }
        int previous = problem.pinAt(position);
        problem.putPin(position, difference);
        foundIsOld = true;
        return previous;
    }

    public int problem(int what) {
        switch (what) {
            case 0: return problem.length;
            case 1: return problem.holes;
            case 2: return problem.differences;
            case 3: return problem.pinned();
            case 4: return Integer.bitCount(problem.free());
            case 5: return pad.length;
            default: return BAD_VALUE;
        }
    }

    /** Poses a problem with no more positions than the pairs fill, and the hook if there is to be one. */
    private int poseTight(int differences, boolean hooked) {
        int length = 2 * Integer.bitCount(differences);
        int holes = 0;
        if (hooked) {
            length++;
            holes = 1 << (length - 2);
        }
        pose(length, holes, differences);
        return length;
    }

    private void pose(int length, int holes, int differences) {
        problem.become(length, holes, differences);
        foundIsOld = true;
    }

    // ---- conditions without a search

    public int startSum() {
        if (!problem.isFilledByPairs()) {
            return NONE;
        }
        int twice = problem.twiceStartSum();
        if ((twice & 1) != 0) {
            return NONE;
        }
        return twice / 2;
    }

    public int slack() {
        if (!problem.isFilledByPairs()) {
            return NONE;
        }
        return problem.shortfall() + SLACK_OFFSET;
    }

    public int starts(int difference) {
        if (!problem.hasDifference(difference)) {
            return NO_SUCH;
        }
        return problem.startsOf(difference);
    }

    // ---- arrangements

    public int count() {
        return searched().size;
    }

    public int at(int number, int position) {
        if (!problem.hasPosition(position)) {
            return NO_SUCH;
        }
        if (!searched().has(number)) {
            return NONE;
        }
        return found.valueAt(number, position);
    }

    public int start(int number, int difference) {
        if (!problem.hasDifference(difference)) {
            return NO_SUCH;
        }
        if (!searched().has(number)) {
            return NONE;
        }
        return found.startOf(number, difference);
    }

    public int frequency(int position, int difference) {
        if (!problem.hasPosition(position)) {
            return NO_SUCH;
        }
        if (difference < 0 || difference > GREATEST_DIFFERENCE) {
            return BAD_VALUE;
        }
        int size = searched().size;
        int frequency = 0;
        for (int number = 0; number < size; number++) {
            if (found.valueAt(number, position) == difference) {
                frequency++;
            }
        }
        return frequency;
    }

    public int options(int position) {
        if (!problem.hasPosition(position)) {
            return NO_SUCH;
        }
        return searched().differencesAt(position);
    }

    public int forced() {
        Arrangements all = searched();
        int forced = 0;
        for (int position = 0; position < problem.length; position++) {
            if (Integer.bitCount(all.differencesAt(position)) == 1) {
                forced |= 1 << position;
            }
        }
        return forced;
    }

    /** The arrangements of the problem as it is now. */
    private Arrangements searched() {
        if (foundIsOld) {
            found.search(problem);
            foundIsOld = false;
        }
        return found;
    }

    // ---- texts

    public int say(int character) {
        if (character < LEAST_CODE || character > GREATEST_CODE) {
            return BAD_VALUE;
        }
        if (pad.length >= MOST_POSITIONS) {
            return NOT_POSSIBLE;
        }
        pad.append(character);
        return pad.length;
    }

    public int wipe() {
        int length = pad.length;
        pad.length = 0;
        return length;
    }

    public int fault() {
        int index = pad.indexOf(Pad.FAULTY);
        return index < 0 ? NONE : index;
    }

    public int judge(int what) {
        if (what != 0 && what != 1) {
            return BAD_VALUE;
        }
        if (!padIsRow()) {
            return BAD_TEXT;
        }
        for (int rule = 1; rule <= RULES; rule++) {
            int place = firstBreach(rule);
            if (place >= 0) {
                return what == 0 ? rule : place;
            }
        }
        return what == 0 ? 0 : NONE;
    }

    public int rank() {
        if (!padIsRow()) {
            return BAD_TEXT;
        }
        return matchOf(searched(), 0);
    }

    public int match(int index) {
        if (pad.indexOf(Pad.FAULTY) >= 0) {
            return BAD_TEXT;
        }
        return matchOf(searched(), index);
    }

    public int spell(int number) {
        if (!searched().has(number)) {
            return NO_SUCH;
        }
        pad.length = 0;
        for (int position = 0; position < problem.length; position++) {
            pad.append(Pad.codeOf(found.valueAt(number, position)));
        }
        return pad.length;
    }

    public int letter(int index) {
        if (!pad.has(index)) {
            return NONE;
        }
        return pad.codes[index];
    }

    private boolean padIsRow() {
        return pad.length == problem.length
            && pad.indexOf(Pad.FAULTY) < 0
            && pad.indexOf(Pad.ANYTHING) < 0;
    }

    /** The lowest position at which the row on the pad breaks a rule, or -1. */
    private int firstBreach(int rule) {
        for (int position = 0; position < pad.length; position++) {
            if (breaks(rule, position)) {
                return position;
            }
        }
        return -1;
    }

    private boolean breaks(int rule, int position) {
        int difference = pad.valueAt(position);
        boolean isHole = difference == 0;
        int pin = problem.pinAt(position);
        switch (rule) {
            case 1: return isHole == problem.isFree(position);
            case 2: return !isHole && !problem.hasDifference(difference);
            case 3: return !isHole && pad.timesBefore(position, difference) >= 2;
            case 4: return !isHole
                && pad.valueAt(position - difference) != difference
                && pad.valueAt(position + difference) != difference;
            case 5: return pin != 0 && pin != difference;
            default: return false;
        }
    }

    /** The arrangement with this index among those that match the pad, their number for -1. */
    private int matchOf(Arrangements all, int index) {
        int matches = 0;
        for (int number = 0; number < all.size; number++) {
            if (isMatch(all, number)) {
                if (matches == index) {
                    return number;
                }
                matches++;
            }
        }
        return index == -1 ? matches : NONE;
    }

    private boolean isMatch(Arrangements all, int number) {
        if (pad.length != problem.length) {
            return false;
        }
        for (int position = 0; position < problem.length; position++) {
            int value = pad.valueAt(position);
            if (value != Pad.ANYTHING && value != all.valueAt(number, position)) {
                return false;
            }
        }
        return true;
    }

    // ---- among arrangements

    public int reversed(int number) {
        if (!searched().has(number)) {
            return NO_SUCH;
        }
        int other = found.reversalOf(number);
        return other < 0 ? NONE : other;
    }

    public int classes() {
        int size = searched().size;
        int classes = 0;
        for (int number = 0; number < size; number++) {
            int other = found.reversalOf(number);
            // A class is counted at its first member, so that it counts once.
            if (other < 0 || other >= number) {
                classes++;
            }
        }
        return classes;
    }

    public int distance(int one, int other) {
        if (!searched().has(one) || !found.has(other)) {
            return NO_SUCH;
        }
        return found.distanceOf(one, other);
    }

    public int neighbour(int number, int index) {
        if (!searched().has(number)) {
            return NO_SUCH;
        }
        int neighbours = 0;
        for (int other = 0; other < found.size; other++) {
            if (found.distanceOf(number, other) == NEIGHBOUR_DISTANCE) {
                if (neighbours == index) {
                    return other;
                }
                neighbours++;
            }
        }
        return index == -1 ? neighbours : NONE;
    }

    public int steps(int one, int other) {
        if (!searched().has(one) || !found.has(other)) {
            return NO_SUCH;
        }
        if (one >= WALKED_ARRANGEMENTS || other >= WALKED_ARRANGEMENTS) {
            return BAD_VALUE;
        }
        int fewest = walk.fewestSteps(found, one, other);
        return fewest < 0 ? NONE : fewest;
    }

    // ---- triples and other problems

    public int triple(int number, int difference, int what) {
        if (!problem.hasDifference(difference) || !searched().has(number)) {
            return NO_SUCH;
        }
        if (what < 0 || what > 2) {
            return BAD_VALUE;
        }
        return tripleNumber(number, difference, what);
    }

    public int cover(int number) {
        if (!searched().has(number)) {
            return NO_SUCH;
        }
        int seen = 0;
        int greatest = 0;
        for (int difference = 1; difference <= GREATEST_DIFFERENCE; difference++) {
            if (!problem.hasDifference(difference)) {
                continue;
            }
            for (int what = 0; what <= 2; what++) {
                int next = tripleNumber(number, difference, what);
                if (contains(seen, next)) {
                    return 0;
                }
                seen |= 1 << next;
                greatest = Math.max(greatest, next);
            }
        }
        return greatest;
    }

    public int hooks() {
        int length = 2 * problem.pairs() + 1;
        int hooks = 0;
        for (int hook = 0; hook < length; hook++) {
            if (isSolvable(length, 1 << hook, problem.differences)) {
                hooks |= 1 << hook;
            }
        }
        return hooks;
    }

    public int omissions() {
        int others = problem.pairs() - 1;
        if (others == 0) {
            return 0;
        }
        int omissions = 0;
        for (int omitted = 1; omitted <= GREATEST_DIFFERENCE; omitted++) {
            if (problem.hasDifference(omitted)
                && isSolvable(2 * others, 0, problem.differences & ~(1 << omitted))) {
                omissions |= 1 << omitted;
            }
        }
        return omissions;
    }

    private int tripleNumber(int number, int difference, int what) {
        if (what == 0) {
            return difference;
        }
        int second = found.startOf(number, difference) + 1 + problem.pairs();
        return what == 1 ? second : second + difference;
    }

    private boolean isSolvable(int length, int holes, int differences) {
        trial.become(length, holes, differences);
        sample.search(trial);
        return sample.size > 0;
    }

    // ---- saving

    public int save(int slot) {
        Problem kept = keptIn(slot);
        if (kept == null) {
            return BAD_VALUE;
        }
        kept.copy(problem);
        return problem.length;
    }

    public int restore(int slot) {
        Problem kept = keptIn(slot);
        if (kept == null) {
            return BAD_VALUE;
        }
        if (kept.length == 0) {
            return NOT_POSSIBLE;
        }
        problem.copy(kept);
        foundIsOld = true;
        return problem.length;
    }

    private Problem keptIn(int slot) {
        return slot >= 0 && slot < slots.length ? slots[slot] : null;
    }

    // ---- sets

    private static boolean contains(int set, int element) {
        return element >= 0 && element <= GREATEST_ELEMENT && (set >>> element & 1) != 0;
    }

    /** The set of the numbers from first to last, where first is not greater and last is below 31. */
    private static int range(int first, int last) {
        return (1 << (last + 1)) - (1 << first);
    }

    private static int sumOf(int set) {
        int sum = 0;
        for (int element = 0; element <= GREATEST_ELEMENT; element++) {
            if (contains(set, element)) {
                sum += element;
            }
        }
        return sum;
    }

    /** A problem with its pins. */
    private static final class Problem {
        int length;
        int holes;
        int differences;
        private final int[] pins;

        Problem() {
            pins = new int[MOST_POSITIONS];
        }

        void become(int newLength, int newHoles, int newDifferences) {
            length = newLength;
            holes = newHoles;
            differences = newDifferences;
            for (int position = 0; position < MOST_POSITIONS; position++) {
                pins[position] = 0;
            }
        }

        void copy(Problem other) {
            become(other.length, other.holes, other.differences);
            for (int position = 0; position < MOST_POSITIONS; position++) {
                pins[position] = other.pins[position];
            }
        }

        boolean hasPosition(int position) {
            return position >= 0 && position < length && position < MOST_POSITIONS;
        }

        boolean hasDifference(int difference) {
            return contains(differences, difference);
        }

        int pairs() {
            return Integer.bitCount(differences);
        }

        int free() {
            return range(0, length - 1) & ~holes;
        }

        boolean isFree(int position) {
            return contains(free(), position);
        }

        int pinAt(int position) {
            return hasPosition(position) ? pins[position] : 0;
        }

        void putPin(int position, int difference) {
            if (hasPosition(position)) {
                pins[position] = difference;
            }
        }

        int pinned() {
            int pinned = 0;
            for (int position = 0; position < length; position++) {
                if (pinAt(position) != 0) {
                    pinned |= 1 << position;
                }
            }
            return pinned;
        }

        private int pinnedTo(int difference) {
            int pinned = 0;
            for (int position = 0; position < length; position++) {
                if (pinAt(position) == difference) {
                    pinned |= 1 << position;
                }
            }
            return pinned;
        }

        int startsOf(int difference) {
            int usable = free() & (pinnedTo(0) | pinnedTo(difference));
            return usable & usable >> difference;
        }

        boolean isFilledByPairs() {
            return Integer.bitCount(free()) == 2 * pairs();
        }

        /** The ends less the starts are the differences, and both together are the free positions. */
        int twiceStartSum() {
            return sumOf(free()) - sumOf(differences);
        }

        int shortfall() {
            int free = free();
            int half = Integer.bitCount(free) / 2;
            int passed = 0;
            int greatest = 0;
            for (int position = 0; position < length; position++) {
                if (contains(free, position)) {
                    greatest += passed < half ? -position : position;
                    passed++;
                }
            }
            return greatest - sumOf(differences);
        }

        /** Whether all conditions hold without which a search could find nothing. */
        boolean mayBeSolvable() {
            return isFilledByPairs()
                && (twiceStartSum() & 1) == 0
                && shortfall() >= 0
                && (pinned() & holes) == 0;
        }
    }

    /** The arrangements of a problem by their numbers, as many of them as there is room for. */
    private static final class Arrangements {
        private static final int START_BITS = 5;
        private static final int START_MASK = 31;
        /** The highest bit of each start in a packed arrangement, and all its other bits. */
        private static final long HIGH_BITS = 0x8421084210L;
        private static final long LOW_BITS = 0x7BDEF7BDEFL;

        /** An arrangement is the starts of the differences, the least difference in the lowest bits. */
        private final long[] packed;
        private int length;
        private int pairs;
        private final int[] differences;
        /** Where each of the differences can begin by itself. */
        private final int[] starts;
        int size;

        Arrangements(int room) {
            packed = new long[Math.max(room, 0)];
            differences = new int[MOST_PAIRS];
            starts = new int[MOST_PAIRS];
        }

        void search(Problem problem) {
            size = 0;
            length = problem.length;
            pairs = 0;
            if (!problem.mayBeSolvable()) {
                return;
            }
            for (int difference = 1; difference <= GREATEST_DIFFERENCE; difference++) {
                if (problem.hasDifference(difference) && pairs < MOST_PAIRS) {
                    differences[pairs] = difference;
                    starts[pairs] = problem.startsOf(difference);
                    pairs++;
                }
            }
            fill(this, problem.free(), range(0, pairs - 1), 0L, 0);
        }

        /**
         * Gives the lowest open position each difference that is left, the least one first: what is
         * below it is settled, so the rows come in their lexicographic order.
         */
        private static void fill(Arrangements list, int open, int left, long settled, int depth) {
            if (left == 0) {
                list.add(settled);
                return;
            }
            if (depth >= MOST_PAIRS || !list.allCanBegin(open, left)) {
                return;
            }
            int position = Integer.numberOfTrailingZeros(open);
            for (int i = 0; i < MOST_PAIRS && !list.isFull(); i++) {
                if (contains(left, i) && contains(list.openStarts(open, i), position)) {
                    int pair = 1 << position | 1 << (position + list.differences[i]);
                    long start = (long) position << (START_BITS * i);
                    fill(list, open & ~pair, left & ~(1 << i), settled | start, depth + 1);
                }
            }
        }

        private boolean isFull() {
            return size < 0 || size >= packed.length;
        }

        private void add(long arrangement) {
            if (!isFull()) {
                packed[size] = arrangement;
                size++;
            }
        }

        private boolean allCanBegin(int open, int left) {
            for (int i = 0; i < MOST_PAIRS; i++) {
                if (contains(left, i) && openStarts(open, i) == 0) {
                    return false;
                }
            }
            return true;
        }

        private int openStarts(int open, int i) {
            if (i < 0 || i >= MOST_PAIRS) {
                return 0;
            }
            return starts[i] & open & open >> differences[i];
        }

        boolean has(int number) {
            return number >= 0 && number < size && number < packed.length;
        }

        private long packedAt(int number) {
            return has(number) ? packed[number] : 0L;
        }

        private int startAt(int number, int i) {
            return (int) (packedAt(number) >>> (START_BITS * i)) & START_MASK;
        }

        /** The start of a difference that the problem has. */
        int startOf(int number, int difference) {
            for (int i = 0; i < pairs && i < MOST_PAIRS; i++) {
                if (differences[i] == difference) {
                    return startAt(number, i);
                }
            }
            return NONE;
        }

        int valueAt(int number, int position) {
            for (int i = 0; i < pairs && i < MOST_PAIRS; i++) {
                int start = startAt(number, i);
                if (position == start || position == start + differences[i]) {
                    return differences[i];
                }
            }
            return 0;
        }

        /** The differences that come at a position; a hole has none. */
        int differencesAt(int position) {
            int come = 0;
            for (int number = 0; number < size; number++) {
                come |= 1 << valueAt(number, position);
            }
            return come & ~1;
        }

        int distanceOf(int one, int other) {
            long changed = packedAt(one) ^ packedAt(other);
            // Adding the low bits carries into the high bit of a start just if a low bit has changed.
            return Long.bitCount(((changed & LOW_BITS) + LOW_BITS | changed) & HIGH_BITS);
        }

        /** The number of the arrangement with the reversed row, or -1 if there is none. */
        int reversalOf(int number) {
            long reversal = 0L;
            for (int i = 0; i < pairs && i < MOST_PAIRS; i++) {
                long start = length - 1 - differences[i] - startAt(number, i);
                reversal |= start << (START_BITS * i);
            }
            for (int other = 0; other < size; other++) {
                if (packedAt(other) == reversal) {
                    return other;
                }
            }
            return -1;
        }
    }

    /** Walks from neighbour to neighbour, the nearest arrangements first. */
    private static final class Walk {
        private final int[] stepsTo;
        private final int[] queue;
        private int queued;

        Walk() {
            stepsTo = new int[WALKED_ARRANGEMENTS];
            queue = new int[WALKED_ARRANGEMENTS];
        }

        /** The fewest steps between two arrangements that are among those walked, or -1. */
        int fewestSteps(Arrangements list, int one, int other) {
            for (int number = 0; number < WALKED_ARRANGEMENTS; number++) {
                stepsTo[number] = -1;
            }
            queued = 0;
            reach(one, 0);
            for (int i = 0; i < queued && i < WALKED_ARRANGEMENTS; i++) {
                if (queue[i] == other) {
                    break;
                }
                reachNeighbours(list, queue[i]);
            }
            return other >= 0 && other < WALKED_ARRANGEMENTS ? stepsTo[other] : -1;
        }

        private void reachNeighbours(Arrangements list, int number) {
            int steps = number >= 0 && number < WALKED_ARRANGEMENTS ? stepsTo[number] + 1 : 0;
            int end = Math.min(list.size, WALKED_ARRANGEMENTS);
            for (int next = 0; next < end; next++) {
                if (stepsTo[next] < 0 && list.distanceOf(number, next) == NEIGHBOUR_DISTANCE) {
                    reach(next, steps);
                }
            }
        }

        private void reach(int number, int steps) {
            if (number >= 0 && number < WALKED_ARRANGEMENTS && queued >= 0 && queued < WALKED_ARRANGEMENTS) {
                stepsTo[number] = steps;
                queue[queued] = number;
                queued++;
            }
        }
    }

    /** The text that says and spells. */
    private static final class Pad {
        /** What a "?" stands for, and what another character that is not of a text does. */
        static final int ANYTHING = -1;
        static final int FAULTY = -2;

        final int[] codes;
        int length;

        Pad() {
            codes = new int[MOST_POSITIONS];
            length = 0;
        }

        boolean has(int index) {
            return index >= 0 && index < length && index < MOST_POSITIONS;
        }

        void append(int code) {
            if (length >= 0 && length < MOST_POSITIONS) {
                codes[length] = code;
                length++;
            }
        }

        static int codeOf(int difference) {
            if (difference == 0) {
                return '.';
            }
            return difference <= 9 ? '0' + difference : 'a' + difference - 10;
        }

        private static int valueOf(int code) {
            if (code == '.') {
                return 0;
            }
            if (code == '?') {
                return ANYTHING;
            }
            if (code >= '1' && code <= '9') {
                return code - '0';
            }
            return code >= 'a' && code <= 'h' ? code - 'a' + 10 : FAULTY;
        }

        int valueAt(int index) {
            return has(index) ? valueOf(codes[index]) : FAULTY;
        }

        /** The first index with this value, or -1. */
        int indexOf(int value) {
            for (int index = 0; index < length; index++) {
                if (valueAt(index) == value) {
                    return index;
                }
            }
            return -1;
        }

        int timesBefore(int end, int value) {
            int times = 0;
            for (int index = 0; index < end; index++) {
                if (valueAt(index) == value) {
                    times++;
                }
            }
            return times;
        }
    }
}
