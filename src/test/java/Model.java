import java.util.ArrayDeque;
import java.util.ArrayList;
import java.util.Arrays;
import java.util.HashSet;
import java.util.List;
import java.util.Set;
import java.util.TreeSet;

/**
 * The document again, written for plainness alone and in another way than the class: it lays the
 * differences one after the other, keeps whole rows and sorts them. ModelTest compares the two.
 */
final class Model {
    private static final int NO_SUCH = -1, BAD_VALUE = -2, BAD_TEXT = -3, NOT_POSSIBLE = -5, NONE = -6;
    private static final String SIGNS = ".123456789abcdefgh";

    private int length = 2;
    private Set<Integer> holes = new TreeSet<>();
    private TreeSet<Integer> differences = new TreeSet<>(List.of(1));
    private int[] pins = new int[18];
    private String pad = "";
    private final Object[][] slots = new Object[2][];
    private List<int[]> rows;

    private static Set<Integer> members(int mask) {
        Set<Integer> members = new TreeSet<>();
        for (int k = 0; k < 32; k++) {
            if ((mask >> k & 1) != 0) {
                members.add(k);
            }
        }
        return members;
    }

    private static int mask(Iterable<Integer> members) {
        int mask = 0;
        for (int k : members) {
            mask |= 1 << k;
        }
        return mask;
    }

    private List<Integer> free() {
        List<Integer> free = new ArrayList<>();
        for (int p = 0; p < length; p++) {
            if (!holes.contains(p)) {
                free.add(p);
            }
        }
        return free;
    }

    private static int sum(Iterable<Integer> numbers) {
        int sum = 0;
        for (int k : numbers) {
            sum += k;
        }
        return sum;
    }

    private boolean isPosition(int position) {
        return 0 <= position && position < length;
    }

    private void become(int newLength, Set<Integer> newHoles, Set<Integer> newDifferences) {
        length = newLength;
        holes = new TreeSet<>(newHoles);
        differences = new TreeSet<>(newDifferences);
        pins = new int[18];
        rows = null;
    }

    // ---- all arrangements

    static List<int[]> rowsOf(int length, Set<Integer> holes, Set<Integer> differences, int[] pins) {
        List<int[]> rows = new ArrayList<>();
        if (length - holes.size() != 2 * differences.size()) {
            return rows;
        }
        List<Integer> order = new ArrayList<>(new TreeSet<>(differences).descendingSet());
        lay(order, 0, new int[length], holes, rows);
        if (pins != null) {
            rows.removeIf(row -> {
                for (int p = 0; p < row.length; p++) {
                    if (pins[p] != 0 && pins[p] != row[p]) {
                        return true;
                    }
                }
                return false;
            });
        }
        rows.sort(Arrays::compare);
        return rows;
    }

    private static void lay(List<Integer> order, int next, int[] row, Set<Integer> holes, List<int[]> rows) {
        if (next == order.size()) {
            rows.add(row.clone());
            return;
        }
        int d = order.get(next);
        for (int s = 0; s + d < row.length; s++) {
            if (row[s] == 0 && row[s + d] == 0 && !holes.contains(s) && !holes.contains(s + d)) {
                row[s] = d;
                row[s + d] = d;
                lay(order, next + 1, row, holes, rows);
                row[s] = 0;
                row[s + d] = 0;
            }
        }
    }

    private List<int[]> rows() {
        if (rows == null) {
            rows = rowsOf(length, holes, differences, pins);
        }
        return rows;
    }

    private boolean isNumber(int number) {
        return 0 <= number && number < rows().size();
    }

    private int numberOf(int[] row) {
        for (int i = 0; i < rows().size(); i++) {
            if (Arrays.equals(rows().get(i), row)) {
                return i;
            }
        }
        return NONE;
    }

    private static int startIn(int[] row, int d) {
        for (int p = 0; p < row.length; p++) {
            if (row[p] == d) {
                return p;
            }
        }
        throw new IllegalStateException("no start");
    }

    // ---- the promises, in their order

    int set(int newLength, int newHoles, int newDifferences) {
        if (newLength < 1 || newLength > 18) {
            return BAD_VALUE;
        }
        for (int k : members(newHoles)) {
            if (k >= newLength) {
                return BAD_VALUE;
            }
        }
        for (int k : members(newDifferences)) {
            if (k < 1 || k > 17) {
                return BAD_VALUE;
            }
        }
        int n = members(newDifferences).size();
        if (n == 0 || n > 8) {
            return BAD_VALUE;
        }
        become(newLength, members(newHoles), members(newDifferences));
        return n;
    }

    private int tight(Set<Integer> newDifferences, boolean hooked) {
        int newLength = newDifferences.size() * 2 + (hooked ? 1 : 0);
        become(newLength, hooked ? Set.of(newLength - 2) : Set.of(), newDifferences);
        return newLength;
    }

    int langford(int first, int count, boolean hooked) {
        if (first < 1 || first > 10 || count < 1 || count > 8) {
            return BAD_VALUE;
        }
        Set<Integer> all = new TreeSet<>();
        for (int i = 0; i < count; i++) {
            all.add(first + i);
        }
        return tight(all, hooked);
    }

    int near(int greatest, int omitted, boolean hooked) {
        if (greatest < 2 || greatest > 9 || omitted < 1 || omitted > greatest) {
            return BAD_VALUE;
        }
        Set<Integer> all = new TreeSet<>();
        for (int d = 1; d <= greatest; d++) {
            if (d != omitted) {
                all.add(d);
            }
        }
        return tight(all, hooked);
    }

    int pin(int position, int difference) {
        if (!isPosition(position)) {
            return NO_SUCH;
        }
        if (difference < 0 || difference > 17) {
            return BAD_VALUE;
        }
        int previous = pins[position];
        pins[position] = difference;
        rows = null;
        return previous;
    }

    int problem(int what) {
        List<Integer> pinned = new ArrayList<>();
        for (int p = 0; p < 18; p++) {
            if (pins[p] != 0) {
                pinned.add(p);
            }
        }
        int[] numbers = {length, mask(holes), mask(differences), mask(pinned), free().size(), pad.length()};
        return what < 0 || what > 5 ? BAD_VALUE : numbers[what];
    }

    int startSum() {
        int twice = sum(free()) - sum(differences);
        if (free().size() != 2 * differences.size() || twice % 2 != 0) {
            return NONE;
        }
        return twice / 2;
    }

    int slack() {
        List<Integer> free = free();
        int n = differences.size();
        if (free.size() != 2 * n) {
            return NONE;
        }
        return 1000 + sum(free.subList(n, 2 * n)) - sum(free.subList(0, n)) - sum(differences);
    }

    int starts(int d) {
        if (!differences.contains(d)) {
            return NO_SUCH;
        }
        Set<Integer> good = new TreeSet<>();
        for (int p : free()) {
            if (pins[p] == 0 || pins[p] == d) {
                good.add(p);
            }
        }
        List<Integer> starts = new ArrayList<>();
        for (int p : good) {
            if (good.contains(p + d)) {
                starts.add(p);
            }
        }
        return mask(starts);
    }

    int count() {
        return rows().size();
    }

    int at(int number, int position) {
        if (!isPosition(position)) {
            return NO_SUCH;
        }
        return isNumber(number) ? rows().get(number)[position] : NONE;
    }

    int start(int number, int d) {
        if (!differences.contains(d)) {
            return NO_SUCH;
        }
        return isNumber(number) ? startIn(rows().get(number), d) : NONE;
    }

    int frequency(int position, int d) {
        if (!isPosition(position)) {
            return NO_SUCH;
        }
        if (d < 0 || d > 17) {
            return BAD_VALUE;
        }
        return (int) rows().stream().filter(row -> row[position] == d).count();
    }

    int options(int position) {
        if (!isPosition(position)) {
            return NO_SUCH;
        }
        Set<Integer> options = new TreeSet<>();
        for (int[] row : rows()) {
            options.add(row[position]);
        }
        options.remove(0);
        return mask(options);
    }

    int forced() {
        Set<Integer> forced = new TreeSet<>();
        if (!rows().isEmpty()) {
            forced.addAll(free());
        }
        for (int[] row : rows()) {
            forced.removeIf(p -> row[p] != rows().get(0)[p]);
        }
        return mask(forced);
    }

    int say(int character) {
        if (character < 33 || character > 126) {
            return BAD_VALUE;
        }
        if (pad.length() == 18) {
            return NOT_POSSIBLE;
        }
        pad = pad + (char) character;
        return pad.length();
    }

    int wipe() {
        int had = pad.length();
        pad = "";
        return had;
    }

    int fault() {
        for (int i = 0; i < pad.length(); i++) {
            if ((SIGNS + "?").indexOf(pad.charAt(i)) < 0) {
                return i;
            }
        }
        return NONE;
    }

    private boolean padIsNoRow() {
        return fault() != NONE || pad.contains("?") || pad.length() != length;
    }

    private int padValue(int p) {
        return SIGNS.indexOf(pad.charAt(p));
    }

    private Set<Integer> breaches(int rule) {
        Set<Integer> broken = new TreeSet<>();
        int[] times = new int[18];
        for (int p = 0; p < length; p++) {
            int d = padValue(p);
            times[d]++;
            boolean isBroken = false;
            if (rule == 1) {
                isBroken = (d == 0) != holes.contains(p);
            } else if (rule == 2) {
                isBroken = d != 0 && !differences.contains(d);
            } else if (rule == 3) {
                isBroken = d != 0 && times[d] > 2;
            } else if (rule == 4) {
                boolean before = p - d >= 0 && padValue(p - d) == d;
                boolean behind = p + d < length && padValue(p + d) == d;
                isBroken = d != 0 && !before && !behind;
            } else {
                isBroken = pins[p] != 0 && pins[p] != d;
            }
            if (isBroken) {
                broken.add(p);
            }
        }
        return broken;
    }

    int judge(int what) {
        if (what < 0 || what > 1) {
            return BAD_VALUE;
        }
        if (padIsNoRow()) {
            return BAD_TEXT;
        }
        for (int rule = 1; rule <= 5; rule++) {
            Set<Integer> broken = breaches(rule);
            if (!broken.isEmpty()) {
                return what == 0 ? rule : broken.iterator().next();
            }
        }
        return what == 0 ? 0 : NONE;
    }

    private String text(int[] row) {
        StringBuilder text = new StringBuilder();
        for (int d : row) {
            text.append(SIGNS.charAt(d));
        }
        return text.toString();
    }

    int rank() {
        if (padIsNoRow()) {
            return BAD_TEXT;
        }
        for (int i = 0; i < rows().size(); i++) {
            if (text(rows().get(i)).equals(pad)) {
                return i;
            }
        }
        return NONE;
    }

    int match(int index) {
        if (fault() != NONE) {
            return BAD_TEXT;
        }
        String pattern = pad.replace(".", "\\.").replace('?', '.');
        List<Integer> matching = new ArrayList<>();
        for (int i = 0; i < rows().size(); i++) {
            if (text(rows().get(i)).matches(pattern)) {
                matching.add(i);
            }
        }
        return pick(matching, index);
    }

    private static int pick(List<Integer> numbers, int index) {
        if (index == -1) {
            return numbers.size();
        }
        return 0 <= index && index < numbers.size() ? numbers.get(index) : NONE;
    }

    int spell(int number) {
        if (!isNumber(number)) {
            return NO_SUCH;
        }
        pad = text(rows().get(number));
        return pad.length();
    }

    int letter(int index) {
        return 0 <= index && index < pad.length() ? pad.charAt(index) : NONE;
    }

    int reversed(int number) {
        if (!isNumber(number)) {
            return NO_SUCH;
        }
        int[] row = rows().get(number);
        int[] back = new int[row.length];
        for (int p = 0; p < row.length; p++) {
            back[p] = row[row.length - 1 - p];
        }
        return numberOf(back);
    }

    int classes() {
        Set<String> classes = new HashSet<>();
        for (int[] row : rows()) {
            String text = text(row);
            String back = new StringBuilder(text).reverse().toString();
            classes.add(text.compareTo(back) < 0 ? text : back);
        }
        return classes.size();
    }

    int distance(int one, int other) {
        if (!isNumber(one) || !isNumber(other)) {
            return NO_SUCH;
        }
        int distance = 0;
        for (int d : differences) {
            if (startIn(rows().get(one), d) != startIn(rows().get(other), d)) {
                distance++;
            }
        }
        return distance;
    }

    private List<Integer> neighbours(int number) {
        List<Integer> neighbours = new ArrayList<>();
        for (int other = 0; other < rows().size(); other++) {
            if (distance(number, other) == 3) {
                neighbours.add(other);
            }
        }
        return neighbours;
    }

    int neighbour(int number, int index) {
        return isNumber(number) ? pick(neighbours(number), index) : NO_SUCH;
    }

    int steps(int one, int other) {
        if (!isNumber(one) || !isNumber(other)) {
            return NO_SUCH;
        }
        if (one >= 300 || other >= 300) {
            return BAD_VALUE;
        }
        int[] steps = new int[300];
        Arrays.fill(steps, NONE);
        steps[one] = 0;
        ArrayDeque<Integer> open = new ArrayDeque<>(List.of(one));
        while (!open.isEmpty()) {
            int next = open.remove();
            for (int reached : neighbours(next)) {
                if (reached < 300 && steps[reached] == NONE) {
                    steps[reached] = steps[next] + 1;
                    open.add(reached);
                }
            }
        }
        return steps[other];
    }

    private int[] tripleOf(int number, int d) {
        int n = differences.size();
        int s = startIn(rows().get(number), d);
        return new int[] {d, s + 1 + n, s + d + 1 + n};
    }

    int triple(int number, int d, int what) {
        if (!differences.contains(d) || !isNumber(number)) {
            return NO_SUCH;
        }
        return what < 0 || what > 2 ? BAD_VALUE : tripleOf(number, d)[what];
    }

    int cover(int number) {
        if (!isNumber(number)) {
            return NO_SUCH;
        }
        TreeSet<Integer> numbers = new TreeSet<>();
        for (int d : differences) {
            for (int k : tripleOf(number, d)) {
                if (!numbers.add(k)) {
                    return 0;
                }
            }
        }
        return numbers.last();
    }

    int hooks() {
        int newLength = 2 * differences.size() + 1;
        Set<Integer> hooks = new TreeSet<>();
        for (int p = 0; p < newLength; p++) {
            if (!rowsOf(newLength, Set.of(p), differences, null).isEmpty()) {
                hooks.add(p);
            }
        }
        return mask(hooks);
    }

    int omissions() {
        Set<Integer> omissions = new TreeSet<>();
        for (int d : differences) {
            Set<Integer> others = new TreeSet<>(differences);
            others.remove(d);
            if (!others.isEmpty() && !rowsOf(2 * others.size(), Set.of(), others, null).isEmpty()) {
                omissions.add(d);
            }
        }
        return mask(omissions);
    }

    int save(int slot) {
        if (slot != 0 && slot != 1) {
            return BAD_VALUE;
        }
        slots[slot] = new Object[] {length, mask(holes), mask(differences), pins.clone()};
        return length;
    }

    int restore(int slot) {
        if (slot != 0 && slot != 1) {
            return BAD_VALUE;
        }
        Object[] kept = slots[slot];
        if (kept == null) {
            return NOT_POSSIBLE;
        }
        become((Integer) kept[0], members((Integer) kept[1]), members((Integer) kept[2]));
        pins = ((int[]) kept[3]).clone();
        return length;
    }
}
