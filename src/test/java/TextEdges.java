/** The edges of the promises 16 to 23: say, wipe, fault, judge, rank, match, spell, letter. */
final class TextEdges {
    private static final int NONE = SpacedPairs.NONE;
    private static final int NO_SUCH = SpacedPairs.NO_SUCH;
    private static final int BAD_VALUE = SpacedPairs.BAD_VALUE;
    private static final int BAD_TEXT = SpacedPairs.BAD_TEXT;
    private static final String FULL = "!bcdefghijklmnopq~";
    private static final String LONGEST_ROW = "h................h";
    /** Neither of these is a row of the two positions of a new object, each for one reason or for more. */
    private static final String[] NO_ROWS = {"", "1", "111", "1".repeat(18), "1?", "?1", "??", "1!", "!1", "i1", "1?1", "!", "?", "1?!"};

    private final Edges e;

    private TextEdges(Edges edges) {
        e = edges;
    }

    static void test(Edges edges) {
        TextEdges t = new TextEdges(edges);
        t.say();
        t.sayRefused();
        t.wipe();
        t.fault();
        t.signs();
        t.judge();
        t.rulesOneToThree();
        t.rulesFourAndFive();
        t.firstRule();
        t.judgeRefused();
        t.rank();
        t.rankRefused();
        t.match();
        t.matchIndex();
        t.matchRefused();
        t.spell();
        t.spellRefused();
        t.letter();
    }

    private static SpacedPairs saying(String text) {
        return Made.saying(new SpacedPairs(), text);
    }

    private void say() {
        e.sentence(16, "Appends a character to the pad");
        SpacedPairs x = saying("1");
        x.say('?');
        x.say('!');
        e.dueText("the pad", Checks.padOf(x), "1?!");

        e.sentence(16, "- `character`: its code, 33 to 126");
        for (int code = 33; code <= 126; code++) {
            x = new SpacedPairs();
            e.due("say(" + code + ")", x.say(code), 1);
            e.due("letter(0) after it", x.letter(0), code);
        }

        e.sentence(16, "Returns the length of the pad then");
        x = new SpacedPairs();
        for (int i = 0; i < FULL.length(); i++) {
            e.due("say() on " + i, x.say(FULL.charAt(i)), i + 1);
        }
        e.dueText("the full pad", Checks.padOf(x), FULL);
        x.wipe();
        e.due("say() after wipe()", x.say('~'), 1);
    }

    private void sayRefused() {
        e.sentence(16, "BAD_VALUE if the code is out of range");
        for (int code : Edges.outside(33, 126)) {
            e.unchanged("say(" + code + ")", x -> x.say(code), BAD_VALUE);
            e.unchanged(() -> saying(FULL), "say(" + code + ") on a full pad", x -> x.say(code), BAD_VALUE);
        }
        for (int code : new int[] {0, 31, 128, 255, 256, 289, 65536 + 33, 65536 + 126}) {
            e.unchanged("say(" + code + ")", x -> x.say(code), BAD_VALUE);
        }

        e.sentence(16, "NOT_POSSIBLE if the pad has 18 characters");
        for (int code = 33; code <= 126; code++) {
            int said = code;
            e.unchanged(() -> saying(FULL), "say(" + code + ") on a full pad", x -> x.say(said), SpacedPairs.NOT_POSSIBLE);
        }
        SpacedPairs x = Made.longest();
        x.spell(0);
        e.due("say() on a full pad that spell() wrote", x.say('h'), SpacedPairs.NOT_POSSIBLE);
        x.wipe();
        e.due("say() after wipe()", x.say('h'), 1);
    }

    private void wipe() {
        e.sentence(17, "Empties the pad");
        SpacedPairs x = Made.busy();
        x.wipe();
        e.dueText("the rest after it", Witness.of(x), Witness.of(Made.saying(Made.busy(), "")));
        x = saying(FULL);
        x.wipe();
        e.due("problem(5) after it", x.problem(5), 0);
        e.due("letter(0) after it", x.letter(0), NONE);
        e.due("fault() after it", x.fault(), NONE);

        e.sentence(17, "Returns the length that it had");
        for (int length = 0; length <= 18; length++) {
            e.due("wipe() of " + length, saying(FULL.substring(0, length)).wipe(), length);
        }
        e.due("wipe() after wipe()", x.wipe(), 0);
    }

    private void fault() {
        e.sentence(18, "Returns the fault of the pad");
        e.unchanged("fault()", SpacedPairs::fault, 3);
        e.due("the first of two faults", saying("1!2!").fault(), 1);
        e.due("a fault in front", saying("!1").fault(), 0);
        for (int i = 0; i < 18; i++) {
            String text = "?".repeat(i) + "!" + "1".repeat(17 - i);
            e.due("fault() of " + text, saying(text).fault(), i);
        }

        e.sentence(18, "Returns the fault, or NONE if there is none");
        e.due("fault() of nothing", new SpacedPairs().fault(), NONE);
        e.due("fault() of a full pad", saying("?.123456789abcdefg").fault(), NONE);
        e.due("fault() of h", saying(LONGEST_ROW).fault(), NONE);
        SpacedPairs x = saying("!");
        x.wipe();
        x.say('1');
        e.due("fault() after the fault is gone", x.fault(), NONE);
    }

    private void signs() {
        e.sentence("Description", "The pad is a text of at most 18 characters that describes a row or a pattern: \".\" stands for a hole,"
            + " \"1\" to \"9\" and \"a\" to \"h\" for the differences 1 to 17, and \"?\" for anything");
        e.due("say() of the 18th", saying(FULL.substring(1)).say('a'), 18);
        e.due("say() of the 19th", saying(FULL).say('a'), SpacedPairs.NOT_POSSIBLE);
        for (int code = 33; code <= 126; code++) {
            boolean isSign = code == '.' || code == '?' || code >= '1' && code <= '9' || code >= 'a' && code <= 'h';
            SpacedPairs x = new SpacedPairs();
            x.say(code);
            e.due("fault() of " + (char) code, x.fault(), isSign ? NONE : 0);
        }
        String signs = "123456789abcdefgh";
        for (int d = 1; d <= 17; d++) {
            char sign = signs.charAt(d - 1);
            String row = sign + ".".repeat(d - 1) + sign;
            SpacedPairs x = Made.set(d + 1, (1 << d) - 2, 1 << d);
            e.due("rank() of " + row, Made.saying(x, row).rank(), 0);
            e.due("match(-1) of " + sign, Made.saying(x, sign + "?".repeat(d)).match(-1), 1);
            x.spell(0);
            e.dueText("what spell(0) wrote of " + d, Checks.padOf(x), row);
        }
    }

    private void dueJudged(SpacedPairs x, String text, int verdict, int place) {
        Made.saying(x, text);
        e.due("verdict of " + text, x.judge(0), verdict);
        e.due("place of " + text, x.judge(1), place);
    }

    private void judge() {
        e.sentence(19, "Judges the row that the pad describes");
        dueJudged(Made.langford(1, 4, false), "42324311", 0, NONE);
        dueJudged(Made.longest(), LONGEST_ROW, 0, NONE);
        dueJudged(Made.set(1, 1, 2), ".", 0, NONE);
        dueJudged(Made.set(18, 0x3FFFF, 2), ".".repeat(18), 0, NONE);
        dueJudged(Made.set(2, 0, 6), "11", 0, NONE);
        e.unchanged(Made::busyWithRow, "judge(0)", x -> x.judge(0), 0);

        e.sentence(19, "- `what`: 0 for the verdict, 1 for its place");
        dueJudged(Made.set(1, 0, 2), "1", 4, 0);
        dueJudged(Made.longest(), LONGEST_ROW.substring(0, 17) + ".", 1, 17);
        dueJudged(Made.longest(), LONGEST_ROW.substring(0, 16) + "hh", 1, 16);

        e.sentence(19, "Returns the number");
        e.due("judge(0)", Made.busyWithRow().judge(0), 0);

        e.sentence(19, "NONE for the place if the verdict is 0");
        e.unchanged(Made::busyWithRow, "judge(1)", x -> x.judge(1), NONE);
        e.unchanged(() -> saying("11"), "judge(1)", x -> x.judge(1), NONE);
        e.unchanged(() -> saying("22"), "judge(1) of a verdict that is not 0", x -> x.judge(1), 0);
    }

    private void rulesOneToThree() {
        e.sentence("Description", "1. The holes of the row are just the holes of the problem");
        SpacedPairs x = Made.langford(1, 3, true);
        dueJudged(x, "11232.3", 0, NONE);
        dueJudged(x, "1123213", 1, 5);
        dueJudged(x, ".1232.3", 1, 0);
        dueJudged(x, "11232..", 1, 6);
        dueJudged(x, "112.233", 1, 3);
        dueJudged(x, "1123233", 1, 5);
        dueJudged(x, ".......", 1, 0);

        e.sentence("Description", "2. Each difference in the row is one of the problem");
        dueJudged(x, "41232.3", 2, 0);
        dueJudged(x, "11232.h", 2, 6);
        dueJudged(x, "11292.9", 2, 3);
        dueJudged(Made.longest(), "g................h", 2, 0);
        dueJudged(Made.set(2, 0, 1 << 17), "12", 2, 0);

        e.sentence("Description", "3. No difference comes more than twice (broken at the third place at which it comes, and at later ones)");
        dueJudged(x, "11122.3", 3, 2);
        dueJudged(x, "11112.3", 3, 2);
        dueJudged(x, "13132.1", 3, 6);
        dueJudged(x, "13131.3", 3, 4);
        dueJudged(x, "11233.3", 3, 6);
        dueJudged(Made.set(18, 0, 2), "1".repeat(18), 3, 2);
        dueJudged(Made.set(18, 0, 0x1FE), "1122334455667788" + "88", 3, 16);
    }

    private void rulesFourAndFive() {
        e.sentence("Description", "4. A difference that comes at a position p comes at p - d or at p + d, too");
        SpacedPairs x = Made.langford(1, 3, true);
        dueJudged(x, "12132.3", 4, 0);
        dueJudged(x, "11223.3", 4, 2);
        dueJudged(x, "31232.1", 4, 1);
        dueJudged(Made.set(2, 0, 1 << 17), "hh", 4, 0);
        dueJudged(Made.set(3, 0, 6), "112", 4, 2);
        dueJudged(Made.set(3, 0, 6), "211", 4, 0);
        dueJudged(Made.set(18, 0x3FFFF & ~(1 << 16 | 1), 1 << 17), "h...............h.", 4, 0);
        dueJudged(Made.set(18, 0x3FFFF & ~(1 << 17 | 2), 1 << 17), ".h...............h", 4, 1);

        e.sentence("Description", "5. A pinned position has the difference of its pin");
        x = Made.pinned(Made.langford(1, 3, true), 6, 3);
        dueJudged(x, "11232.3", 0, NONE);
        dueJudged(Made.pinned(x, 6, 2), "11232.3", 5, 6);
        dueJudged(Made.pinned(x, 0, 2), "11232.3", 5, 0);
        dueJudged(Made.pinned(Made.pinned(x, 0, 0), 6, 0), "11232.3", 0, NONE);
        dueJudged(Made.pinned(x, 5, 1), "11232.3", 5, 5);
        dueJudged(Made.pinned(Made.longest(), 17, 16), LONGEST_ROW, 5, 17);
        dueJudged(Made.pinned(Made.longest(), 17, 17), LONGEST_ROW, 0, NONE);
    }

    private void firstRule() {
        e.sentence("Description", "the verdict is the number of the first one that is broken at some position, and its place is the lowest position"
            + " at which it is broken");
        SpacedPairs x = Made.pinned(Made.langford(1, 3, true), 0, 9);
        dueJudged(x, "411122.", 1, 5);
        dueJudged(x, "41112.4", 2, 0);
        dueJudged(x, "21114.3", 2, 4);
        dueJudged(x, "21113.3", 3, 3);
        dueJudged(x, "12213.3", 4, 0);
        dueJudged(x, "11232.3", 5, 0);
        dueJudged(Made.pinned(x, 0, 0), "11232.3", 0, NONE);
    }

    private void judgeRefused() {
        e.sentence(19, "BAD_VALUE if what is neither 0 nor 1");
        for (int what : Edges.outside(0, 1)) {
            e.unchanged(Made::busyWithRow, "judge(" + what + ") of a row", x -> x.judge(what), BAD_VALUE);
            for (String text : NO_ROWS) {
                e.unchanged(() -> saying(text), "judge(" + what + ") of " + text, x -> x.judge(what), BAD_VALUE);
            }
        }

        e.sentence(19, "BAD_TEXT if the pad has a fault or a \"?\", or is not as long as the problem");
        for (String text : NO_ROWS) {
            e.unchanged(() -> saying(text), "judge(0) of " + text, x -> x.judge(0), BAD_TEXT);
            e.unchanged(() -> saying(text), "judge(1) of " + text, x -> x.judge(1), BAD_TEXT);
        }
        for (int i = 0; i < 18; i++) {
            String front = LONGEST_ROW.substring(0, i);
            String end = LONGEST_ROW.substring(i + 1);
            e.due("judge(0) with a fault at " + i, Made.saying(Made.longest(), front + "i" + end).judge(0), BAD_TEXT);
            e.due("judge(0) with ? at " + i, Made.saying(Made.longest(), front + "?" + end).judge(0), BAD_TEXT);
            e.due("judge(0) of " + i, Made.saying(Made.longest(), front).judge(0), BAD_TEXT);
        }
        SpacedPairs x = saying("11");
        e.due("judge(0) of 2 in 2", x.judge(0), 0);
        x.set(3, 0, 2);
        e.due("judge(0) of 2 in 3", x.judge(0), BAD_TEXT);
        x.set(1, 0, 2);
        e.due("judge(0) of 2 in 1", x.judge(0), BAD_TEXT);
    }

    private void rank() {
        e.sentence(20, "Returns the number of the arrangement whose row the pad describes");
        String[] rows = {"11342324", "11423243", "23243114", "34232411", "41134232", "42324311"};
        for (int i = 0; i < rows.length; i++) {
            e.due("rank() of " + rows[i], Made.saying(Made.langford(1, 4, false), rows[i]).rank(), i);
        }
        e.unchanged(Made::busyWithRow, "rank()", SpacedPairs::rank, 1);

        e.sentence(20, "Returns the number");
        SpacedPairs x = Made.langford(1, 8, false);
        for (int number : new int[] {0, 1, 299, 300, 502, 503}) {
            x.spell(number);
            e.due("rank() of the row " + number, x.rank(), number);
        }
        e.due("rank() of the longest row", Made.saying(Made.longest(), LONGEST_ROW).rank(), 0);
    }

    private void rankRefused() {
        e.sentence(20, "BAD_TEXT as with judge()");
        for (String text : NO_ROWS) {
            e.unchanged(() -> saying(text), "rank() of " + text, SpacedPairs::rank, BAD_TEXT);
        }
        e.due("rank() of no row without arrangements", Made.saying(Made.langford(1, 2, false), "11?").rank(), BAD_TEXT);
        e.due("rank() of a row with ?", Made.saying(Made.busy(), "4232431?").rank(), BAD_TEXT);
        e.due("rank() of a row that is too long", Made.saying(Made.busy(), "423243111").rank(), BAD_TEXT);

        e.sentence(20, "NONE if it is not the row of an arrangement");
        e.unchanged(() -> Made.saying(Made.busy(), "11342324"), "rank() of a row that the pin rules out", SpacedPairs::rank, NONE);
        e.unchanged(() -> Made.saying(Made.busy(), "42324312"), "rank() of a row with one place changed", SpacedPairs::rank, NONE);
        e.unchanged(() -> Made.saying(Made.busy(), "........"), "rank() of holes", SpacedPairs::rank, NONE);
        e.unchanged(() -> saying("22"), "rank() of a difference of no problem", SpacedPairs::rank, NONE);
        SpacedPairs x = Made.saying(Made.set(2, 0, 6), "11");
        e.due("the verdict of a row that lacks a difference", x.judge(0), 0);
        e.due("rank() of it", x.rank(), NONE);
        x = Made.saying(Made.set(1, 1, 2), ".");
        e.due("the verdict of a row of holes", x.judge(0), 0);
        e.due("rank() of it", x.rank(), NONE);
    }

    private void dueMatching(SpacedPairs x, String pattern, int... numbers) {
        Made.saying(x, pattern);
        e.due("match(-1) of " + pattern, x.match(-1), numbers.length);
        for (int i = 0; i < numbers.length; i++) {
            e.due("match(" + i + ") of " + pattern, x.match(i), numbers[i]);
        }
        e.due("match(" + numbers.length + ") of " + pattern, x.match(numbers.length), NONE);
    }

    private void match() {
        e.sentence(21, "Finds arrangements that match the pattern that the pad describes");
        dueMatching(Made.langford(1, 4, false), "????????", 0, 1, 2, 3, 4, 5);
        dueMatching(Made.langford(1, 4, false), "???????4", 0, 2);
        dueMatching(Made.langford(1, 4, false), "4???????", 4, 5);
        dueMatching(Made.langford(1, 4, false), "?1?????3", 1);
        dueMatching(Made.langford(1, 4, false), "42324311", 5);
        dueMatching(Made.langford(1, 4, false), "42324312");
        dueMatching(Made.busy(), "????????", 0, 1);
        dueMatching(Made.busy(), "1???????");
        dueMatching(Made.pinned(Made.busy(), 0, 9), "????????");
        dueMatching(Made.longest(), "?".repeat(18), 0);
        dueMatching(Made.longest(), "?" + ".".repeat(16) + "?", 0);
        dueMatching(Made.longest(), "h" + "?".repeat(16) + "h", 0);
        dueMatching(Made.longest(), "h?".repeat(9));
        dueMatching(Made.longest(), "g" + "?".repeat(17));

        e.sentence("Description", "An arrangement matches a pattern if the text is as long as its row, and each character other than \"?\" stands for"
            + " what the row has at this position");
        dueMatching(Made.busy(), "");
        dueMatching(Made.busy(), "???????");
        dueMatching(Made.busy(), "?????????");
        dueMatching(Made.busy(), "4232431");
        dueMatching(Made.busy(), "423243111");
        dueMatching(Made.busy(), "?".repeat(18));
        dueMatching(Made.longest(), "?".repeat(17));
        dueMatching(new SpacedPairs(), "1");
        dueMatching(new SpacedPairs(), "?");
        dueMatching(new SpacedPairs(), "??", 0);
    }

    private void matchIndex() {
        e.sentence(21, "- `index`: -1 for their number, otherwise an index among them, in the order of their numbers");
        e.unchanged(() -> Made.saying(Made.busy(), "4???????"), "match(-1)", x -> x.match(-1), 2);
        e.unchanged(() -> Made.saying(Made.busy(), "4???????"), "match(0)", x -> x.match(0), 0);
        e.unchanged(() -> Made.saying(Made.busy(), "4???????"), "match(1)", x -> x.match(1), 1);
        e.due("match(0) of the last alone", Made.saying(Made.busy(), "?2??????").match(0), 1);

        e.sentence(21, "Returns the number, or the number of the arrangement");
        SpacedPairs x = Made.saying(Made.langford(1, 8, false), "?".repeat(16));
        e.due("match(-1) of 504", x.match(-1), 504);
        e.due("match(503) of 504", x.match(503), 503);
        e.due("match(504) of 504", x.match(504), NONE);

        e.sentence(21, "NONE if there is no such index");
        for (int index : Edges.outside(-1, 1)) {
            e.unchanged(() -> Made.saying(Made.busy(), "4???????"), "match(" + index + ")", y -> y.match(index), NONE);
        }
        for (int index : Edges.outside(-1, -1)) {
            e.unchanged(() -> Made.saying(Made.busy(), "1???????"), "match(" + index + ") of none", y -> y.match(index), NONE);
            e.unchanged(() -> Made.saying(Made.busy(), ""), "match(" + index + ") of nothing", y -> y.match(index), NONE);
        }
    }

    private void matchRefused() {
        e.sentence(21, "BAD_TEXT if the pad has a fault");
        for (int index : new int[] {-1, 0, 1, 2, -2, Integer.MIN_VALUE, Integer.MAX_VALUE}) {
            for (String text : new String[] {"4??????!", "0???????", "?i??????", "!", "4???????!", "!".repeat(18)}) {
                e.unchanged(() -> Made.saying(Made.busy(), text), "match(" + index + ") of " + text, x -> x.match(index), BAD_TEXT);
            }
            e.due("match(" + index + ") without arrangements", Made.saying(Made.langford(1, 2, false), "!").match(index), BAD_TEXT);
        }
    }

    private void spell() {
        e.sentence(22, "Makes the pad the row of an arrangement");
        SpacedPairs x = Made.busy();
        x.spell(1);
        e.dueText("all after spell(1)", Witness.of(x), Witness.of(Made.busyWithRow()));
        x = Made.saying(Made.langford(2, 3, false), FULL);
        x.spell(0);
        e.dueText("a full pad after it", Checks.padOf(x), "342324");
        x = Made.langford(2, 3, false);
        x.spell(1);
        e.dueText("an empty pad after it", Checks.padOf(x), "423243");
        x.set(2, 0, 2);
        e.dueText("it with another problem", Checks.padOf(x), "423243");
        x = Made.longest();
        x.spell(0);
        e.dueText("the longest row", Checks.padOf(x), LONGEST_ROW);

        e.sentence(22, "- `number`: the number of the arrangement");
        x = Made.langford(1, 8, false);
        x.spell(0);
        e.due("the front of the row 0", x.letter(0), '1');
        x.spell(503);
        e.due("the front of the row 503", x.letter(0), '8');

        e.sentence(22, "Returns the length of the pad then");
        e.due("spell(0) of a new object", new SpacedPairs().spell(0), 2);
        e.due("spell(0) of the longest", Made.longest().spell(0), 18);
        e.due("spell(0) over a longer text", Made.saying(new SpacedPairs(), FULL).spell(0), 2);
    }

    private void spellRefused() {
        e.sentence(22, "NO_SUCH if there is no such arrangement");
        for (int number : Edges.outside(0, 1)) {
            e.unchanged("spell(" + number + ")", x -> x.spell(number), NO_SUCH);
        }
        for (int number : Edges.outside(0, 503)) {
            e.unchanged(() -> Made.saying(Made.langford(1, 8, false), "?"), "spell(" + number + ") of 504", x -> x.spell(number), NO_SUCH);
        }
        e.unchanged(() -> Made.pinned(Made.busy(), 0, 9), "spell(0) without arrangements", x -> x.spell(0), NO_SUCH);
    }

    private void letter() {
        e.sentence(23, "Returns a character of the pad");
        e.unchanged("letter(3)", x -> x.letter(3), '!');

        e.sentence(23, "- `index`: its index");
        for (int i = 0; i < 18; i++) {
            e.due("letter(" + i + ") of a full pad", saying(FULL).letter(i), FULL.charAt(i));
        }

        e.sentence(23, "Returns its code");
        e.due("the least code", saying("!").letter(0), 33);
        e.due("the greatest code", saying("~").letter(0), 126);

        e.sentence(23, "NONE if there is no such index");
        for (int length : new int[] {0, 1, 17, 18}) {
            for (int i : Edges.outside(0, length - 1)) {
                e.unchanged(() -> saying(FULL.substring(0, length)), "letter(" + i + ") of " + length, x -> x.letter(i), NONE);
            }
        }
        SpacedPairs x = saying("12");
        x.wipe();
        e.due("letter(0) after wipe()", x.letter(0), NONE);
        x.say('3');
        e.due("letter(1) that there was", x.letter(1), NONE);
    }
}
