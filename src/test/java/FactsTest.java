/** Promises 4 (run), 5 (reached), 6 (pieces), 7 (end), 8 (ways) and 9 (told), with answers worked out by hand. */
public final class FactsTest {
    private static final int LEAST = Integer.MIN_VALUE;
    private static final int MOST = Integer.MAX_VALUE;
    private static final String ALL = "-2147483648..2147483647";

    private FactsTest() {
    }

    public static void main(String[] args) {
        wrongInputs();
        sums();
        bitsAndMoves();
        quotients();
        rests();
        cuts();
        actsOfTwoSpans();
        made();
        common();
        conditions();
        differing();
        withoutSign();
        samePlace();
        ways();
        widening();
        wideningBothEnds();
        narrowingLosesStatements();
        heads();
        Checks.finish("FactsTest");
    }

    private static void wrongInputs() {
        WholeSpans x = new WholeSpans();
        x.op(0, 0, 5, 0);
        x.op(19, 0, 0, 0);
        x.op(19, 0, 0, 0);
        for (int at : new int[] {-1, 3, 40, LEAST, MOST}) {
            Checks.dueThrow("reached " + at, Checks.INDEX, () -> x.reached(at));
            Checks.dueThrow("pieces " + at, Checks.INDEX, () -> x.pieces(at, 0));
            Checks.dueThrow("end " + at, Checks.INDEX, () -> x.end(at, 0, 0, true));
            Checks.dueThrow("ways " + at, Checks.INDEX, () -> x.ways(at));
        }
        for (int place : new int[] {-1, 8}) {
            Checks.dueThrow("pieces of " + place, Checks.INDEX, () -> x.pieces(0, place));
            Checks.dueThrow("end of " + place, Checks.INDEX, () -> x.end(0, place, 0, true));
        }
        notRun(x);
        // Of a wrong SPAN nothing is said before the state.
        Checks.dueThrow("end, not run, no such SPAN", Checks.STATE, () -> x.end(0, 0, 9, true));
        Checks.dueThrow("told(-1)", Checks.ARGUMENT, () -> x.told(-1));
        Checks.dueThrow("told(5)", Checks.ARGUMENT, () -> x.told(5));
        x.run();
        Checks.dueThrow("told(5), run", Checks.ARGUMENT, () -> x.told(5));
        for (int k : new int[] {-1, 1, 2, LEAST, MOST}) {
            Checks.dueThrow("end of SPAN " + k, Checks.INDEX, () -> x.end(0, 0, k, false));
        }
        Checks.due("reached(1)", x.reached(1) ? 1 : 0, 1);
        Checks.due("reached(2)", x.reached(2) ? 1 : 0, 0);
        Checks.due("pieces(2, 0)", x.pieces(2, 0), 0);
        Checks.due("ways(2)", x.ways(2), 0);
        Checks.dueThrow("end where not REACHED", Checks.INDEX, () -> x.end(2, 0, 0, false));
        x.op(19, 0, 0, 0);
        notRun(x);
        x.run();
        x.clear();
        x.op(19, 0, 0, 0);
        notRun(x);
    }

    private static void notRun(WholeSpans x) {
        Checks.dueThrow("reached, not run", Checks.STATE, () -> x.reached(0));
        Checks.dueThrow("pieces, not run", Checks.STATE, () -> x.pieces(0, 0));
        Checks.dueThrow("end, not run", Checks.STATE, () -> x.end(0, 0, 0, true));
        Checks.dueThrow("ways, not run", Checks.STATE, () -> x.ways(0));
        for (int what = 0; what < 5; what++) {
            int one = what;
            Checks.dueThrow("told, not run", Checks.STATE, () -> x.told(one));
        }
    }

    /** PLACE 2 becomes what the act makes of PLACES 0 and 1. */
    private static void dueOfTwo(int kind, int bLow, int bHigh, int cLow, int cHigh, String want) {
        WholeSpans x = new WholeSpans();
        x.begin(0, bLow, bHigh);
        x.begin(1, cLow, cHigh);
        x.op(kind, 2, 0, 1);
        x.op(19, 0, 0, 0);
        x.run();
        String what = "kind " + kind + " of " + bLow + ".." + bHigh + " and " + cLow + ".." + cHigh;
        Checks.dueSet(what, x, 1, 2, want);
        boolean reached = !want.isEmpty();
        Checks.due(what + ": reached", x.reached(1) ? 1 : 0, reached ? 1 : 0);
        boolean throwing = (kind == 7 || kind == 8) && cLow <= 0 && cHigh >= 0;
        Checks.due(what + ": ways", x.ways(0), (throwing ? 1 : 0) + (reached ? 4 : 0));
        if (reached) {
            Checks.dueSet(what, x, 1, 1, cLow + ".." + cHigh);
        }
    }

    private static void dueOfOne(int kind, int low, int high, int c, String want) {
        WholeSpans x = new WholeSpans();
        x.begin(0, low, high);
        x.op(kind, 0, 0, c);
        x.op(19, 0, 0, 0);
        Checks.due("run", x.run(), 2);
        Checks.dueSet("kind " + kind + " of " + low + ".." + high + ", " + c, x, 1, 0, want);
    }

    private static void sums() {
        dueOfTwo(2, 1, 3, 10, 20, "11..23");
        dueOfTwo(2, MOST - 1, MOST, 1, 1, "-2147483648..-2147483648 2147483647..2147483647");
        dueOfTwo(2, MOST, MOST, 1, 1, "-2147483648..-2147483648");
        dueOfTwo(2, LEAST, LEAST, LEAST, LEAST, "0..0");
        dueOfTwo(2, LEAST, MOST, 0, 0, ALL);
        dueOfTwo(2, LEAST, MOST - 1, 0, 0, "-2147483648..2147483646");
        dueOfTwo(2, LEAST, MOST - 1, 0, 1, ALL);
        dueOfTwo(2, LEAST, MOST - 2, 5, 5, "-2147483648..-2147483646 -2147483643..2147483647");
        dueOfTwo(3, 1, 3, 10, 20, "-19..-7");
        dueOfTwo(3, LEAST, LEAST, 1, 1, "2147483647..2147483647");
        dueOfTwo(3, LEAST, LEAST + 1, 1, 1, "-2147483648..-2147483648 2147483647..2147483647");
        dueOfTwo(3, 0, 0, LEAST, LEAST, "-2147483648..-2147483648");
        dueOfTwo(4, -3, 2, -5, 4, "-12..15");
        dueOfTwo(4, 65536, 65536, 65536, 65536, "0..0");
        dueOfTwo(4, 65536, 65536, 32768, 32768, "-2147483648..-2147483648");
        dueOfTwo(4, 0, 65536, 0, 65536, ALL);
        dueOfTwo(4, 0, 65535, 0, 65535, "-2147483648..-131071 0..2147483647");
        dueOfTwo(4, LEAST, MOST, LEAST, MOST, ALL);
        dueOfTwo(4, LEAST, LEAST, LEAST, LEAST, "0..0");
    }

    private static void bitsAndMoves() {
        dueOfOne(5, 3, 7, 7, "3..7");
        dueOfOne(5, 3, 8, 7, "0..7");
        dueOfOne(5, 3, 7, 6, "0..6");
        dueOfOne(5, 3, 5, 6, "0..5");
        dueOfOne(5, 0, 1, 0, "0..0");
        dueOfOne(5, -1, 5, 9, "0..9");
        dueOfOne(5, -9, -5, 7, "0..7");
        dueOfOne(5, 5, MOST, MOST, "5..2147483647");
        dueOfOne(5, -1, 3, MOST, "0..2147483647");
        dueOfOne(6, -5, 9, 1, "-3..4");
        dueOfOne(6, -5, 9, 0, "-5..9");
        dueOfOne(6, LEAST, MOST, 31, "-1..0");
        dueOfOne(10, 0, 0, 4, "0..4");
    }

    private static void quotients() {
        dueOfTwo(7, -10, 10, 2, 5, "-5..5");
        dueOfTwo(7, -7, -7, 2, 2, "-3..-3");
        dueOfTwo(7, 10, 20, -2, 3, "-20..-5 3..20");
        dueOfTwo(7, 10, 20, 0, 3, "3..20");
        dueOfTwo(7, 10, 20, -2, 0, "-20..-5");
        dueOfTwo(7, 1, 2, -1, 1, "-2..-1 1..2");
        dueOfTwo(7, 0, 5, -1, 1, "-5..5");
        dueOfTwo(7, LEAST, LEAST, -1, -1, "-2147483648..-2147483648");
        dueOfTwo(7, LEAST, LEAST + 1, -1, -1, "-2147483648..-2147483648 2147483647..2147483647");
        dueOfTwo(7, 5, 6, 0, 0, "");
    }

    private static void rests() {
        dueOfTwo(8, 5, 7, 10, 20, "5..7");
        dueOfTwo(8, -9, 9, 10, 20, "-9..9");
        dueOfTwo(8, -9, 10, 10, 20, "-9..10");
        dueOfTwo(8, 5, 12, 10, 20, "0..12");
        dueOfTwo(8, 5, 30, 10, 20, "0..19");
        dueOfTwo(8, -30, -5, 10, 20, "-19..0");
        dueOfTwo(8, -10, -5, 10, 20, "-10..0");
        dueOfTwo(8, -30, 30, -7, 3, "-6..6");
        dueOfTwo(8, 0, 0, 0, 1, "0..0");
        dueOfTwo(8, 7, 9, -1, 1, "0..0");
        dueOfTwo(8, 5, 6, 0, 0, "");
        dueOfTwo(8, LEAST + 1, MOST, LEAST, LEAST, "-2147483647..2147483647");
        dueOfTwo(8, LEAST, MOST, LEAST, LEAST, "-2147483647..2147483647");
        dueOfTwo(8, LEAST, LEAST, -1, -1, "0..0");
    }

    private static void cuts() {
        dueOfOne(9, 120, 130, 0, "-128..-126 120..127");
        dueOfOne(9, -128, 127, 0, "-128..127");
        dueOfOne(9, 0, 255, 0, "-128..127");
        dueOfOne(9, 0, 254, 0, "-128..-2 0..127");
        dueOfOne(9, 300, 310, 0, "44..54");
        dueOfOne(9, 32760, 32770, 1, "-32768..-32766 32760..32767");
        dueOfOne(9, LEAST, MOST, 1, "-32768..32767");
        dueOfOne(9, -1, 1, 2, "0..1 65535..65535");
        dueOfOne(9, -5, -3, 2, "65531..65533");
        dueOfOne(9, 0, 65536, 2, "0..65535");
    }

    /** Both PLACES have two SPANS: the act takes each with each. */
    private static void dueOfTwoSpans(int kind, int c, String want) {
        WholeSpans x = new WholeSpans();
        x.begin(0, 127, 128);
        x.begin(1, -1, 2);
        x.op(9, 0, 0, 0);
        x.op(9, 1, 1, 2);
        x.op(kind, 2, 0, c);
        x.op(19, 0, 0, 0);
        x.run();
        Checks.dueSet("two SPANS", x, 2, 0, "-128..-128 127..127");
        Checks.dueSet("two SPANS", x, 2, 1, "0..2 65535..65535");
        Checks.dueSet("kind " + kind + " of two SPANS", x, 3, 2, want);
    }

    private static void actsOfTwoSpans() {
        dueOfTwoSpans(1, 0, "-128..-128 127..127");
        dueOfTwoSpans(2, 1, "-128..129 65407..65662");
        dueOfTwoSpans(3, 1, "-65663..-65408 -130..127");
        // -256..0 and 0..254 are one; 8322945 is nearer to it than -8388480.
        dueOfTwoSpans(4, 1, "-8388480..-8388480 -256..8322945");
        dueOfTwoSpans(5, 63, "0..63");
        dueOfTwoSpans(6, 4, "-8..-8 7..7");
        // -128..-64, 0..0, 63..127: 63 numbers lie on the left, 62 on the right.
        dueOfTwoSpans(7, 1, "-128..-64 0..127");
        // Sizes 1 .. 65535: neither -128 nor 127 is less than 1 in size.
        dueOfTwoSpans(8, 1, "-128..127");
        dueOfTwoSpans(9, 2, "127..127 65408..65408");
    }

    /** PLACE 0 may have any of these numbers at the last STATEMENT, joined in their order. */
    private static WholeSpans anyOf(int... numbers) {
        WholeSpans x = new WholeSpans();
        int last = 3 * numbers.length;
        for (int i = 0; i < numbers.length; i++) {
            x.begin(7, 0, 1);
            x.op(0, 0, numbers[i], 0);
            x.op(13, 7, 6, last);
            x.op(10, 7, 0, 1);
        }
        x.op(19, 0, 0, 0);
        x.run();
        return x;
    }

    private static void dueMade(String want, int... numbers) {
        WholeSpans x = anyOf(numbers);
        Checks.dueSet("made", x, 3 * numbers.length, 0, want);
    }

    private static void made() {
        dueMade("4..4", 4);
        dueMade("4..5", 4, 5);
        dueMade("4..4 6..6", 4, 6);
        dueMade("4..4 6..6", 6, 4);
        dueMade("1..5 100..100", 1, 5, 100);
        dueMade("1..1 95..100", 1, 100, 95);
        dueMade("1..3 5..5", 1, 3, 5);
        dueMade("1..3 5..5", 5, 3, 1);
        dueMade("1..5", 1, 3, 5, 4);
        dueMade("-2147483648..-2147483648 2147483647..2147483647", LEAST, MOST);
        dueMade("-2147483648..-1 2147483647..2147483647", LEAST, MOST, -1);
        dueMade("-2147483648..-2147483648 0..2147483647", LEAST, MOST, 0);
    }

    private static void common() {
        WholeSpans x = new WholeSpans();
        x.begin(6, 0, 1);
        // PLACE 0 becomes 0..10 or 12..30, PLACE 1 5..22 or 28..40.
        x.op(10, 0, 0, 10);
        x.op(13, 6, 7, 3);
        x.op(10, 0, 12, 30);
        x.op(10, 1, 5, 22);
        x.op(13, 6, 7, 6);
        x.op(10, 1, 28, 40);
        x.op(13, 0, 1, 8);
        x.op(19, 0, 0, 0);
        x.op(19, 0, 0, 0);
        x.run();
        Checks.dueSet("common", x, 6, 0, "0..10 12..30");
        Checks.dueSet("common", x, 6, 1, "5..22 28..40");
        // 5..10, 12..22 and 28..30 are in common: one number lies between the lower two.
        Checks.dueSet("common", x, 8, 0, "5..22 28..30");
        Checks.dueSet("common", x, 8, 1, "5..22 28..30");
        Checks.dueSet("common", x, 7, 0, "0..10 12..30");
        Checks.dueSet("common", x, 7, 1, "5..22 28..40");
    }

    /** STATEMENT 2 is where the condition is so, 1 where it is not; "" for a way that is not gone. */
    private static void dueCondition(int r, int[] spans, String... want) {
        WholeSpans x = new WholeSpans();
        x.begin(0, spans[0], spans[1]);
        x.begin(1, spans[2], spans[3]);
        x.op(11 + r, 0, 1, 2);
        x.op(19, 0, 0, 0);
        x.op(19, 0, 0, 0);
        x.run();
        String what = "condition " + r + " of " + spans[0] + ".." + spans[1] + " and " + spans[2] + ".." + spans[3];
        Checks.dueSet(what + ", so", x, 2, 0, want[0]);
        Checks.dueSet(what + ", so", x, 2, 1, want[1]);
        Checks.dueSet(what + ", not so", x, 1, 0, want[2]);
        Checks.dueSet(what + ", not so", x, 1, 1, want[3]);
        Checks.due(what + ": ways", x.ways(0), (want[0].isEmpty() ? 0 : 2) + (want[2].isEmpty() ? 0 : 4));
    }

    private static void conditions() {
        int[] cross = {0, 10, 5, 7};
        dueCondition(0, cross, "0..6", "5..7", "5..10", "5..7");
        dueCondition(1, cross, "0..7", "5..7", "6..10", "5..7");
        dueCondition(2, cross, "5..7", "5..7", "0..10", "5..7");
        dueCondition(3, cross, "0..10", "5..7", "5..7", "5..7");
        dueCondition(4, cross, "5..10", "5..7", "0..6", "5..7");
        dueCondition(5, cross, "6..10", "5..7", "0..7", "5..7");
        dueCondition(6, cross, "0..6", "5..7", "0..10", "5..7");
        int[] shifted = {3, 8, 0, 5};
        dueCondition(0, shifted, "3..4", "4..5", "3..8", "0..5");
        dueCondition(1, shifted, "3..5", "3..5", "3..8", "0..5");
        dueCondition(4, shifted, "3..8", "0..5", "3..4", "4..5");
        dueCondition(5, shifted, "3..8", "0..5", "3..5", "3..5");
        int[] apart = {0, 4, 5, 9};
        dueCondition(0, apart, "0..4", "5..9", "", "");
        dueCondition(1, apart, "0..4", "5..9", "", "");
        dueCondition(2, apart, "", "", "0..4", "5..9");
        dueCondition(3, apart, "0..4", "5..9", "", "");
        dueCondition(4, apart, "", "", "0..4", "5..9");
        dueCondition(5, apart, "", "", "0..4", "5..9");
        int[] lowest = {LEAST, MOST, LEAST, LEAST};
        dueCondition(0, lowest, "", "", ALL, "-2147483648..-2147483648");
        dueCondition(5, lowest, "-2147483647..2147483647", "-2147483648..-2147483648",
                "-2147483648..-2147483648", "-2147483648..-2147483648");
        int[] highest = {MOST, MOST, LEAST, MOST};
        dueCondition(0, highest, "", "", "2147483647..2147483647", ALL);
    }

    private static void differing() {
        dueCondition(3, new int[] {0, 10, 0, 0}, "1..10", "0..0", "0..0", "0..0");
        dueCondition(3, new int[] {0, 10, 10, 10}, "0..9", "10..10", "10..10", "10..10");
        dueCondition(3, new int[] {0, 10, 4, 4}, "0..10", "4..4", "4..4", "4..4");
        dueCondition(3, new int[] {5, 5, 5, 9}, "5..5", "6..9", "5..5", "5..5");
        dueCondition(3, new int[] {5, 5, 5, 5}, "", "", "5..5", "5..5");
        dueCondition(3, new int[] {5, 6, 5, 5}, "6..6", "5..5", "5..5", "5..5");
        dueCondition(2, new int[] {MOST, MOST, MOST, MOST}, "2147483647..2147483647", "2147483647..2147483647", "", "");
        dueCondition(2, new int[] {LEAST, LEAST, LEAST, MOST}, "-2147483648..-2147483648", "-2147483648..-2147483648",
                "-2147483648..-2147483648", "-2147483647..2147483647");
        // Of two SPANS, the one that is the number alone goes.
        WholeSpans x = new WholeSpans();
        x.begin(0, 127, 130);
        x.begin(1, 127, 127);
        x.op(9, 0, 0, 0);
        x.op(14, 0, 1, 3);
        x.op(19, 0, 0, 0);
        x.op(19, 0, 0, 0);
        x.run();
        Checks.dueSet("not the same", x, 1, 0, "-128..-126 127..127");
        Checks.dueSet("not the same", x, 3, 0, "-128..-126");
        Checks.dueSet("the same", x, 2, 0, "127..127");
    }

    private static void withoutSign() {
        dueCondition(6, new int[] {-5, 20, 0, 10}, "0..9", "0..10", "-5..20", "0..10");
        dueCondition(6, new int[] {-5, 20, -1, 10}, "-5..20", "-1..10", "-5..20", "-1..10");
        dueCondition(6, new int[] {-5, -1, 3, 10}, "", "", "-5..-1", "3..10");
        dueCondition(6, new int[] {0, 5, 0, 0}, "", "", "0..5", "0..0");
        dueCondition(6, new int[] {0, 1, 5, 9}, "0..1", "5..9", "0..1", "5..9");
    }

    private static void samePlace() {
        int[] ways = {4, 2, 2, 4, 2, 4, 4};
        for (int r = 0; r < 7; r++) {
            WholeSpans x = new WholeSpans();
            x.begin(3, -2, 6);
            x.op(11 + r, 3, 3, 2);
            x.op(19, 0, 0, 0);
            x.op(19, 0, 0, 0);
            x.run();
            Checks.due("same PLACE, condition " + r, x.ways(0), ways[r]);
            Checks.dueSet("same PLACE, condition " + r, x, 2, 3, ways[r] == 2 ? "-2..6" : "");
            Checks.dueSet("same PLACE, condition " + r, x, 1, 3, ways[r] == 4 ? "-2..6" : "");
        }
    }

    private static void ways() {
        WholeSpans x = new WholeSpans();
        x.begin(0, 0, 1);
        x.op(7, 1, 1, 0);
        x.op(8, 1, 1, 0);
        x.op(11, 2, 0, 40);
        x.op(18, 5, 0, 0);
        x.op(19, 0, 0, 0);
        x.op(7, 1, 1, 2);
        x.op(19, 0, 0, 0);
        x.run();
        Checks.due("quotient", x.ways(0), 5);
        Checks.due("rest", x.ways(1), 5);
        Checks.due("condition to one that is not there", x.ways(2), 6);
        Checks.due("jump", x.ways(3), 2);
        Checks.due("not REACHED", x.ways(4), 0);
        Checks.due("throws always", x.ways(5), 1);
        Checks.due("not REACHED behind a throw", x.ways(6), 0);
        Checks.due("reached", x.told(2), 5);
        x.clear();
        x.op(11, 0, 1, 2);
        x.op(19, 0, 0, 0);
        x.op(18, 40, 0, 0);
        x.run();
        Checks.due("condition that is never so", x.ways(0), 4);
        Checks.due("end", x.ways(1), 8);
        x.clear();
        x.op(18, 40, 0, 0);
        x.run();
        Checks.due("jump to one that is not there", x.ways(0), 2);
    }

    /** 0: PLACE 0 = 0; 1: to 5, if it is PLACE 1 or more; 2: PLACE 2 = 1; 3: PLACE 0 grows by it; 4: to 1; 5: end. */
    private static WholeSpans countTo(int most) {
        WholeSpans x = new WholeSpans();
        x.begin(1, most, most);
        x.op(0, 0, 0, 0);
        x.op(15, 0, 1, 5);
        x.op(0, 2, 1, 0);
        x.op(2, 0, 0, 2);
        x.op(18, 1, 0, 0);
        x.op(19, 0, 0, 0);
        return x;
    }

    private static void widening() {
        WholeSpans x = countTo(3);
        // The HEAD becomes 0..1, 0..2, 0..3 in three ROUNDS; the fourth reaches 5; the fifth changes nothing.
        Checks.due("to 3: run", x.run(), 5);
        Checks.due("to 3: widened", x.told(1), 0);
        Checks.due("to 3: narrowed", x.told(3), 0);
        Checks.due("to 3: heads", x.told(4), 1);
        Checks.dueSet("to 3", x, 1, 0, "0..3");
        Checks.dueSet("to 3", x, 5, 0, "3..3");
        WholeSpans y = countTo(4);
        // The fourth change of the HEAD goes to MOST, the least THRESHOLD not below 4; 5 has 4..MOST in the next.
        Checks.due("to 4: run", y.run(), 6);
        Checks.due("to 4: told(0)", y.told(0), 6);
        Checks.due("to 4: widened", y.told(1), 1);
        Checks.dueSet("to 4", y, 1, 0, "0..4");
        Checks.dueSet("to 4", y, 2, 0, "0..3");
        Checks.dueSet("to 4", y, 5, 0, "4..4");
        // The HEAD narrows to 0..4, then 5 to 4..4; the second time nothing changes.
        Checks.due("to 4: narrowed", y.told(3), 2);
        Checks.due("to 4: reached", y.told(2), 6);
        y.op(0, 7, 1000, 0);
        y.run();
        Checks.dueSet("to 4, with a THRESHOLD", y, 1, 0, "0..4");
        Checks.due("to 4, with a THRESHOLD: widened", y.told(1), 1);
        Checks.due("to 4, again: run", y.run(), 6);
    }

    private static void wideningBothEnds() {
        WholeSpans x = new WholeSpans();
        x.begin(6, 1, 1);
        x.op(2, 0, 0, 6);
        x.op(3, 1, 1, 6);
        x.op(18, 0, 0, 0);
        x.op(10, 7, -50, 60);
        Checks.due("both ends: heads", x.run() > 0 ? x.told(4) : -1, 1);
        // Three changes, then -4 to -50 and 4 to 60, then -51 to LEAST and 61 to MOST, then both go round.
        Checks.due("both ends: widened", x.told(1), 6);
        Checks.dueSet("both ends", x, 0, 0, ALL);
        Checks.dueSet("both ends", x, 0, 1, ALL);
        Checks.due("both ends: behind the loop", x.reached(3) ? 1 : 0, 0);
    }

    private static void narrowingLosesStatements() {
        WholeSpans x = new WholeSpans();
        x.begin(1, 10, 10);
        x.begin(3, 100, 100);
        x.op(0, 0, 0, 0);
        x.op(15, 0, 1, 5);
        x.op(0, 2, 1, 0);
        x.op(2, 0, 0, 2);
        x.op(18, 1, 0, 0);
        x.op(12, 0, 3, 8);
        x.op(0, 4, 7, 0);
        x.op(4, 4, 4, 4);
        x.op(19, 0, 0, 0);
        x.run();
        Checks.dueSet("lost", x, 5, 0, "10..10");
        Checks.due("lost: ways(5)", x.ways(5), 2);
        Checks.due("lost: reached(6)", x.reached(6) ? 1 : 0, 0);
        Checks.due("lost: reached(7)", x.reached(7) ? 1 : 0, 0);
        Checks.due("lost: pieces(7, 0)", x.pieces(7, 0), 0);
        Checks.due("lost: reached", x.told(2), 7);
        // Changed: PLACE 0 at 1, 5 and 8, and at 8 PLACE 4 with what came by 7.
        Checks.dueSet("lost", x, 8, 0, "10..10");
        Checks.dueSet("lost", x, 8, 4, "0..0");
        Checks.due("lost: narrowed", x.told(3), 4);
    }

    private static void heads() {
        WholeSpans x = new WholeSpans();
        x.op(18, 0, 0, 0);
        x.op(11, 0, 1, 1);
        x.op(12, 0, 1, 1);
        x.op(13, 0, 1, 4);
        x.op(19, 0, 0, 0);
        x.op(17, 0, 1, 4);
        // Of 0 .. 5: 0, 1 and 4 are named from there or behind; that none but 0 is REACHED does not matter.
        Checks.due("heads: run", x.run(), 1);
        Checks.due("heads", x.told(4), 3);
        Checks.due("heads: reached", x.told(2), 1);
    }
}
