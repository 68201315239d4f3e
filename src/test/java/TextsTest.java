/** Promises 16 to 23: say, wipe, fault, judge, rank, match, spell, letter. */
public final class TextsTest {
    private static final Checks CHECKS = new Checks();
    private static final int[] FAR = {Integer.MIN_VALUE, -1000, -7, -2, 18, 19, 32, 513, Integer.MAX_VALUE};

    private static void due(String call, int got, int want) {
        CHECKS.due(call, got, want);
    }

    public static void main(String[] args) {
        sayAndWipe();
        fault();
        judgeRules();
        rank();
        match();
        spell();
        letter();
        CHECKS.finish();
    }

    private static void sayAndWipe() {
        SpacedPairs x = new SpacedPairs();
        due("wipe() of nothing", x.wipe(), 0);
        due("say(33)", x.say(33), 1);
        due("say(126)", x.say(126), 2);
        due("wipe()", x.wipe(), 2);
        due("the pad is empty", x.problem(5), 0);
        for (int i = 1; i <= 18; i++) {
            due("say '" + i + "'", x.say('a' + i), i);
        }
        CHECKS.dueText("the full pad", Checks.padOf(x), "bcdefghijklmnopqrs");
        x.langford(1, 3, false);
        due("the pad stays with another problem", x.wipe(), 18);
    }

    private static void fault() {
        SpacedPairs x = new SpacedPairs();
        due("fault() of an empty pad", x.fault(), SpacedPairs.NONE);
        Checks.sayAll(x, ".123456789abcdefg?");
        due("fault() of all signs", x.fault(), SpacedPairs.NONE);
        Checks.sayAll(x, "h");
        due("fault() of h", x.fault(), SpacedPairs.NONE);
        Checks.sayAll(x, "0");
        due("fault() at the front", x.fault(), 0);
        for (int code = 33; code <= 126; code++) {
            x = new SpacedPairs();
            x.say('1');
            x.say(code);
            x.say('!');
            boolean isSign = ".?".indexOf(code) >= 0 || '1' <= code && code <= '9' || 'a' <= code && code <= 'h';
            due("fault() of 1 " + (char) code + " !", x.fault(), isSign ? 2 : 1);
        }
    }

    private static void judge(SpacedPairs x, String text, int verdict, int place) {
        Checks.sayAll(x, text);
        due("verdict of " + text, x.judge(0), verdict);
        due("place of " + text, x.judge(1), place);
    }

    private static void judgeRules() {
        SpacedPairs x = new SpacedPairs();
        x.langford(1, 3, true);
        judge(x, "11232.3", 0, SpacedPairs.NONE);
        judge(x, "1123233", 1, 5);
        judge(x, ".1232.3", 1, 0);
        judge(x, "112323.", 1, 5);
        judge(x, "h4232.3", 2, 0);
        judge(x, "11292.3", 2, 3);
        judge(x, "11111.3", 3, 2);
        judge(x, "12322.2", 3, 4);
        judge(x, "11332.1", 3, 6);
        judge(x, "11233.3", 3, 6);
        judge(x, "12132.3", 4, 0);
        judge(x, "11223.3", 4, 2);
        judge(x, "11332.2", 4, 2);
        x.pin(6, 2);
        x.pin(1, 4);
        judge(x, "11232.3", 5, 1);
        judge(x, "11223.3", 4, 2);
        x.pin(1, 1);
        judge(x, "11232.3", 5, 6);
        x.pin(6, 3);
        judge(x, "11232.3", 0, SpacedPairs.NONE);
        x.pin(5, 3);
        judge(x, "11232.3", 5, 5);
        x.set(18, 0x3FFFF & ~(1 << 17 | 1), 1 << 17);
        judge(x, "h................h", 0, SpacedPairs.NONE);
        x.set(2, 0, 6);
        judge(x, "11", 0, SpacedPairs.NONE);
        x.set(3, 0, 4);
        judge(x, "222", 3, 2);
        x.set(2, 0, 4);
        judge(x, "22", 4, 0);
    }

    private static void rank() {
        SpacedPairs x = new SpacedPairs();
        x.langford(1, 4, false);
        String[] rows = {"11342324", "11423243", "23243114", "34232411", "41134232", "42324311"};
        for (int i = 0; i < rows.length; i++) {
            Checks.sayAll(x, rows[i]);
            due("rank() of " + rows[i], x.rank(), i);
        }
        x.pin(0, 4);
        due("rank() with a pin", x.rank(), 1);
        x.pin(0, 1);
        due("rank() with a pin that is not kept", x.rank(), SpacedPairs.NONE);
        Checks.sayAll(x, "11342342");
        due("rank() of another row", x.rank(), SpacedPairs.NONE);
        x.set(2, 0, 6);
        Checks.sayAll(x, "11");
        due("rank() of a row without a difference", x.rank(), SpacedPairs.NONE);
        x.langford(1, 2, true);
        Checks.sayAll(x, "112.2");
        due("rank() with a hole", x.rank(), 0);
    }

    private static void match(SpacedPairs x, String pattern, int... numbers) {
        Checks.sayAll(x, pattern);
        due("match(-1) of " + pattern, x.match(-1), numbers.length);
        for (int i = 0; i < numbers.length; i++) {
            due("match(" + i + ") of " + pattern, x.match(i), numbers[i]);
        }
        due("match() beyond the last of " + pattern, x.match(numbers.length), SpacedPairs.NONE);
        for (int index : FAR) {
            due("match(" + index + ") of " + pattern, x.match(index), SpacedPairs.NONE);
        }
    }

    private static void match() {
        SpacedPairs x = new SpacedPairs();
        x.langford(1, 4, false);
        match(x, "????????", 0, 1, 2, 3, 4, 5);
        match(x, "4???????", 4, 5);
        match(x, "???????4", 0, 2);
        match(x, "11??????", 0, 1);
        match(x, "41134232", 4);
        match(x, "5???????");
        match(x, ".???????");
        match(x, "???????");
        match(x, "?????????");
        match(x, "");
        x.pin(1, 2);
        match(x, "????????", 0);
        x.langford(1, 3, true);
        match(x, "?????.?", 0, 1);
        match(x, "?????1?");
    }

    private static void spell() {
        SpacedPairs x = new SpacedPairs();
        x.langford(2, 3, false);
        Checks.sayAll(x, "!!!!!!!!!");
        due("spell(1)", x.spell(1), 6);
        CHECKS.dueText("what spell(1) wrote", Checks.padOf(x), "423243");
        due("spell(0)", x.spell(0), 6);
        CHECKS.dueText("what spell(0) wrote", Checks.padOf(x), "342324");
        x.set(18, 0x3FFFF & ~(1 << 17 | 1), 1 << 17);
        due("spell() with holes", x.spell(0), 18);
        CHECKS.dueText("what it wrote", Checks.padOf(x), "h................h");
        x.set(11, 0x7FF & ~(1 << 10 | 1), 1 << 10);
        due("spell() with 10", x.spell(0), 11);
        CHECKS.dueText("what it wrote", Checks.padOf(x), "a.........a");
        x.set(10, 0x3FF & ~(1 << 9 | 1), 1 << 9);
        due("spell() with 9", x.spell(0), 10);
        CHECKS.dueText("what it wrote", Checks.padOf(x), "9........9");
    }

    private static void letter() {
        SpacedPairs x = new SpacedPairs();
        Checks.sayAll(x, "1!~?");
        int[] codes = {'1', '!', '~', '?'};
        for (int i = 0; i < codes.length; i++) {
            due("letter(" + i + ")", x.letter(i), codes[i]);
        }
        for (int i : new int[] {4, -1, 17, 18, Integer.MIN_VALUE, Integer.MAX_VALUE}) {
            due("letter(" + i + ")", x.letter(i), SpacedPairs.NONE);
        }
        x.wipe();
        due("letter(0) after wipe()", x.letter(0), SpacedPairs.NONE);
    }
}
