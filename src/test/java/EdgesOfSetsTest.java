/** The edges that the document's section 1 names: SETS, MADE, JOINED, COMMON, WRAPPED, CUT; one sentence a method. */
public final class EdgesOfSetsTest {
    private EdgesOfSetsTest() {
    }

    public static void main(String[] args) {
        spanOfOneNumber();
        twoSpansLieTwoApart();
        touchingOnesAreOne();
        onesWithNumbersInCommonAreOne();
        closestTwoBecomeOne();
        ofTheSameTheLowerTwo();
        untilThereAreTwo();
        joinedAreAllSpansAtOnce();
        commonOfEachWithEach();
        commonIsNothing();
        commonOfThreeIsMade();
        wrappedAllNumbers();
        wrappedOneNumberShort();
        wrappedWithinOneRound();
        wrappedAtBothEnds();
        wrappedOverManyRounds();
        cutToEightBits();
        cutToSixteenBits();
        cutToSixteenBitsWithoutSign();
        Checks.finish("EdgesOfSetsTest");
    }

    /** The SPANS come together at one STATEMENT. */
    private static void dueTold(String told, String want) {
        WholeSpans x = new WholeSpans();
        Scenes.tellSet(x, 0, told);
        int at = Scenes.stop(x);
        x.run();
        Scenes.dueSet("told " + told, x, at, 0, want);
    }

    private static void dueBothOrders(String one, String other, String want) {
        dueTold(one + " " + other, want);
        dueTold(other + " " + one, want);
    }

    /** "A SPAN is all numbers from one to another one": it may be one number, or all. */
    private static void spanOfOneNumber() {
        dueTold("7..7", "7..7");
        dueTold("LEAST..LEAST", "LEAST..LEAST");
        dueTold("MOST..MOST", "MOST..MOST");
        dueTold("LEAST..MOST", "LEAST..MOST");
    }

    /** "two of which the first ends 2 or more below the second's begin". */
    private static void twoSpansLieTwoApart() {
        dueBothOrders("0..3", "5..9", "0..3 5..9");
        dueBothOrders("LEAST..-1", "1..MOST", "LEAST..-1 1..MOST");
        dueBothOrders("LEAST..LEAST", "MOST..MOST", "LEAST..LEAST MOST..MOST");
        dueBothOrders("LEAST..2147483645", "MOST..MOST", "LEAST..2147483645 MOST..MOST");
        dueBothOrders("LEAST..LEAST", "-2147483646..MOST", "LEAST..LEAST -2147483646..MOST");
    }

    /** "those that touch .. are one". */
    private static void touchingOnesAreOne() {
        dueBothOrders("0..3", "4..9", "0..9");
        dueBothOrders("LEAST..-1", "0..MOST", "LEAST..MOST");
        dueBothOrders("LEAST..LEAST", "-2147483647..-2147483647", "LEAST..-2147483647");
        dueBothOrders("2147483646..2147483646", "MOST..MOST", "2147483646..MOST");
    }

    /** "those that .. have numbers in common are one": at an end, the one within the other, the same. */
    private static void onesWithNumbersInCommonAreOne() {
        dueBothOrders("0..5", "5..9", "0..9");
        dueBothOrders("0..9", "3..4", "0..9");
        dueBothOrders("0..9", "0..4", "0..9");
        dueBothOrders("0..9", "5..9", "0..9");
        dueBothOrders("0..9", "0..9", "0..9");
        // Behind MOST there is no number: one more than it must not go round to LEAST.
        dueBothOrders("0..MOST", "5..6", "0..MOST");
        dueBothOrders("LEAST..MOST", "LEAST..LEAST", "LEAST..MOST");
    }

    /** "the two next to one another between which the fewest numbers are become one with these". */
    private static void closestTwoBecomeOne() {
        dueJoined("0..0 100..100", "10..10", "0..10 100..100");
        dueJoined("0..0 100..100", "90..90", "0..0 90..100");
        dueJoined("0..0 100..100", "-3..-3", "-3..0 100..100");
        dueJoined("0..0 100..100", "105..109", "0..0 100..109");
        dueJoined("0..0 100..100", "49..49", "0..49 100..100");
        dueJoined("0..0 100..100", "51..51", "0..0 51..100");
        // More than MOST numbers may lie between two.
        dueJoined("LEAST..LEAST MOST..MOST", "2..2", "LEAST..LEAST 2..MOST");
        dueJoined("LEAST..LEAST MOST..MOST", "-3..-3", "LEAST..-3 MOST..MOST");
        dueJoined("LEAST..LEAST MOST..MOST", "2147483645..2147483645", "LEAST..LEAST 2147483645..MOST");
    }

    /** "(of the same the lower two)". */
    private static void ofTheSameTheLowerTwo() {
        dueJoined("0..0 100..100", "50..50", "0..50 100..100");
        dueJoined("1..1 5..5", "3..3", "1..3 5..5");
        dueJoined("-2147483647..-2147483647 MOST..MOST", "0..0", "-2147483647..0 MOST..MOST");
    }

    /** "while there are more than two": sums of two SPANS each are four. */
    private static void untilThereAreTwo() {
        Scenes.dueOfTwo(2, "0..0 10..10", "0..0 1000..1000", "0..10 1000..1010");
        Scenes.dueOfTwo(2, "0..0 10..10", "0..0 20..20", "0..20 30..30");
        Scenes.dueOfTwo(2, "0..0 100..100", "0..0 3..3", "0..3 100..103");
        // 7 and 8 touch, and six numbers lie on either side of them.
        Scenes.dueOfTwo(2, "0..0 7..7", "0..0 8..8", "0..8 15..15");
    }

    /** The second SET comes to a STATEMENT where the first one is. */
    private static void dueJoined(String one, String other, String want) {
        WholeSpans x = new WholeSpans();
        Scenes.tellSet(x, 0, one);
        int statementsOfOther = other.contains(" ") ? 5 : 2;
        Scenes.either(x, x.size() + 2 + statementsOfOther);
        Scenes.tellSet(x, 0, other);
        int at = Scenes.stop(x);
        x.run();
        Scenes.dueSet(one + " joined with " + other, x, at, 0, want);
    }

    /** "JOINED SETS are MADE of all their SPANS": of four at once, not of three and then one. */
    private static void joinedAreAllSpansAtOnce() {
        dueJoined("0..0 100..100", "50..50 60..60", "0..0 50..100");
        dueJoined("50..50 60..60", "0..0 100..100", "0..0 50..100");
        dueJoined("0..0 10..10", "20..20 30..30", "0..20 30..30");
        dueJoined("0..4 20..30", "5..6 31..40", "0..6 20..40");
        dueJoined("0..4 20..30", "0..40 50..50", "0..40 50..50");
        dueJoined("0..0 2..2", "1..1 3..3", "0..3");
    }

    /** "what their SPANS have in common, each with each". */
    private static void commonOfEachWithEach() {
        dueCommon("0..5", "5..9", "5..5");
        dueCommon("0..9", "3..4", "3..4");
        dueCommon("LEAST..MOST", "LEAST..LEAST MOST..MOST", "LEAST..LEAST MOST..MOST");
        dueCommon("0..9", "-5..0 9..12", "0..0 9..9");
        dueCommon("0..3 6..9", "2..7", "2..3 6..7");
        dueCommon("0..3 6..9", "6..7 20..30", "6..7");
        dueCommon("0..3 6..9", "-9..-5 3..4", "3..3");
        dueCommon("0..3 6..9", "3..4 9..12", "3..3 9..9");
    }

    /** "(nothing, if they have nothing)": then a = b is not so. */
    private static void commonIsNothing() {
        dueCommon("0..4", "5..9", "");
        dueCommon("5..9", "0..4", "");
        dueCommon("0..0 2..2", "1..1 3..3", "");
        dueCommon("LEAST..LEAST", "MOST..MOST", "");
        dueCommon("0..3 6..9", "4..5", "");
    }

    /** "COMMON of two SETS is MADE of": three SPANS become two, with what lies between. */
    private static void commonOfThreeIsMade() {
        dueCommon("0..10 20..30", "5..22 28..40", "5..10 20..30");
        dueCommon("0..10 12..30", "5..22 28..40", "5..22 28..30");
        dueCommon("0..10 14..30", "5..20 24..40", "5..20 24..30");
    }

    private static void dueCommon(String one, String other, String want) {
        WholeSpans x = new WholeSpans();
        Scenes.tellSet(x, 0, one);
        Scenes.tellSet(x, 1, other);
        int at = x.op(13, 0, 1, x.size() + 2);
        Scenes.stop(x);
        int so = Scenes.stop(x);
        x.run();
        String what = one + " in common with " + other;
        Scenes.dueSet(what, x, so, 0, want);
        Scenes.dueSet(what, x, so, 1, want);
        Checks.due(what + ": ways", x.ways(at) & 2, want.isEmpty() ? 0 : 2);
    }

    /** "all numbers, if they are 4294967296 or more". */
    private static void wrappedAllNumbers() {
        Scenes.dueOfTwo(2, "LEAST..MOST", "0..0", "LEAST..MOST");
        Scenes.dueOfTwo(2, "LEAST..MOST", "5..5", "LEAST..MOST");
        Scenes.dueOfTwo(2, "LEAST..2147483646", "5..6", "LEAST..MOST");
        Scenes.dueOfTwo(2, "LEAST..MOST", "LEAST..MOST", "LEAST..MOST");
        Scenes.dueOfTwo(3, "0..0", "LEAST..MOST", "LEAST..MOST");
        Scenes.dueOfTwo(3, "LEAST..MOST", "LEAST..MOST", "LEAST..MOST");
        // 0 .. 4294967295 are just enough.
        Scenes.dueOfTwo(4, "0..65535", "0..65537", "LEAST..MOST");
        Scenes.dueOfTwo(4, "0..65536", "0..65536", "LEAST..MOST");
        Scenes.dueOfTwo(4, "LEAST..MOST", "LEAST..MOST", "LEAST..MOST");
        Scenes.dueOfTwo(7, "LEAST..MOST", "-1..-1", "LEAST..MOST");
    }

    /** They are 4294967295: one number alone is left out. */
    private static void wrappedOneNumberShort() {
        Scenes.dueOfTwo(2, "LEAST..2147483646", "5..5", "LEAST..-2147483645 -2147483643..MOST");
        Scenes.dueOfTwo(2, "LEAST..2147483646", "0..0", "LEAST..2147483646");
        Scenes.dueOfTwo(2, "LEAST..2147483646", "1..1", "-2147483647..MOST");
        Scenes.dueOfTwo(2, "LEAST..2147483646", "2..2", "LEAST..LEAST -2147483646..MOST");
        Scenes.dueOfTwo(3, "0..0", "LEAST..2147483646", "LEAST..LEAST -2147483646..MOST");
        Scenes.dueOfTwo(7, "LEAST..2147483646", "-1..-1", "LEAST..LEAST -2147483646..MOST");
    }

    /** "else, lo and hi going round in 32 bits to l and h: l .. h": both go round, or none does. */
    private static void wrappedWithinOneRound() {
        Scenes.dueOfTwo(2, "2147483646..2147483646", "0..1", "2147483646..MOST");
        Scenes.dueOfTwo(2, "MOST..MOST", "1..3", "LEAST..-2147483646");
        Scenes.dueOfTwo(2, "LEAST..LEAST", "-3..-1", "2147483645..MOST");
        Scenes.dueOfTwo(2, "LEAST..LEAST", "LEAST..LEAST", "0..0");
        Scenes.dueOfTwo(2, "MOST..MOST", "MOST..MOST", "-2..-2");
        Scenes.dueOfTwo(3, "LEAST..LEAST", "1..1", "MOST..MOST");
        Scenes.dueOfTwo(3, "MOST..MOST", "-1..-1", "LEAST..LEAST");
        Scenes.dueOfTwo(3, "0..0", "LEAST..LEAST", "LEAST..LEAST");
        Scenes.dueOfTwo(3, "LEAST..LEAST", "MOST..MOST", "1..1");
    }

    /** "or, if h is below l, LEAST .. h and l .. MOST". */
    private static void wrappedAtBothEnds() {
        Scenes.dueOfTwo(2, "MOST..MOST", "0..1", "LEAST..LEAST MOST..MOST");
        Scenes.dueOfTwo(2, "LEAST..LEAST", "-1..0", "LEAST..LEAST MOST..MOST");
        Scenes.dueOfTwo(3, "LEAST..-2147483647", "1..1", "LEAST..LEAST MOST..MOST");
        Scenes.dueOfTwo(3, "MOST..MOST", "-4..2", "LEAST..-2147483645 2147483645..MOST");
        Scenes.dueOfTwo(4, "0..65535", "0..65536", "LEAST..-65536 0..MOST");
    }

    /** "Exact numbers": a product may go round more than once. */
    private static void wrappedOverManyRounds() {
        Scenes.dueOfTwo(4, "65536..65536", "65536..65536", "0..0");
        Scenes.dueOfTwo(4, "65536..65536", "32768..32768", "LEAST..LEAST");
        Scenes.dueOfTwo(4, "LEAST..LEAST", "LEAST..LEAST", "0..0");
        Scenes.dueOfTwo(4, "LEAST..LEAST", "MOST..MOST", "LEAST..LEAST");
        Scenes.dueOfTwo(4, "MOST..MOST", "MOST..MOST", "1..1");
        // 2^62 - 3 * 2^31 + 2 .. 2^62 - 2^32 + 1 are MOST numbers.
        Scenes.dueOfTwo(4, "MOST..MOST", "2147483646..MOST", "-2147483646..1");
        Scenes.dueOfTwo(4, "LEAST..LEAST", "-1..-1", "LEAST..LEAST");
        Scenes.dueOfTwo(4, "LEAST..LEAST", "-1..1", "LEAST..MOST");
    }

    /** "CUT to 8 .. bits likewise": 256 numbers are all. */
    private static void cutToEightBits() {
        Scenes.dueOfOne(9, "-128..127", 0, "-128..127");
        Scenes.dueOfOne(9, "127..127", 0, "127..127");
        Scenes.dueOfOne(9, "128..128", 0, "-128..-128");
        Scenes.dueOfOne(9, "127..128", 0, "-128..-128 127..127");
        Scenes.dueOfOne(9, "-129..-129", 0, "127..127");
        Scenes.dueOfOne(9, "-129..-128", 0, "-128..-128 127..127");
        Scenes.dueOfOne(9, "0..254", 0, "-128..-2 0..127");
        Scenes.dueOfOne(9, "0..255", 0, "-128..127");
        Scenes.dueOfOne(9, "1..256", 0, "-128..127");
        Scenes.dueOfOne(9, "1..300", 0, "-128..127");
        Scenes.dueOfOne(9, "-128..126", 0, "-128..126");
        Scenes.dueOfOne(9, "LEAST..LEAST", 0, "0..0");
        Scenes.dueOfOne(9, "MOST..MOST", 0, "-1..-1");
        Scenes.dueOfOne(9, "LEAST..MOST", 0, "-128..127");
        Scenes.dueOfOne(9, "100..130 -200..-127", 0, "-128..-126 56..127");
    }

    /** "CUT to .. 16 bits likewise", with sign: 65536 numbers are all. */
    private static void cutToSixteenBits() {
        Scenes.dueOfOne(9, "-32768..32767", 1, "-32768..32767");
        Scenes.dueOfOne(9, "32768..32768", 1, "-32768..-32768");
        Scenes.dueOfOne(9, "32767..32768", 1, "-32768..-32768 32767..32767");
        Scenes.dueOfOne(9, "-32769..-32769", 1, "32767..32767");
        Scenes.dueOfOne(9, "0..65534", 1, "-32768..-2 0..32767");
        Scenes.dueOfOne(9, "0..65535", 1, "-32768..32767");
        Scenes.dueOfOne(9, "1..65536", 1, "-32768..32767");
        Scenes.dueOfOne(9, "LEAST..LEAST", 1, "0..0");
        Scenes.dueOfOne(9, "MOST..MOST", 1, "-1..-1");
        Scenes.dueOfOne(9, "LEAST..MOST", 1, "-32768..32767");
    }

    /** "CUT to .. 16 bits likewise", without sign. */
    private static void cutToSixteenBitsWithoutSign() {
        Scenes.dueOfOne(9, "0..65535", 2, "0..65535");
        Scenes.dueOfOne(9, "65536..65536", 2, "0..0");
        Scenes.dueOfOne(9, "65535..65536", 2, "0..0 65535..65535");
        Scenes.dueOfOne(9, "-1..-1", 2, "65535..65535");
        Scenes.dueOfOne(9, "-1..0", 2, "0..0 65535..65535");
        Scenes.dueOfOne(9, "1..65535", 2, "1..65535");
        Scenes.dueOfOne(9, "1..65536", 2, "0..65535");
        Scenes.dueOfOne(9, "2..65536", 2, "0..0 2..65535");
        Scenes.dueOfOne(9, "LEAST..LEAST", 2, "0..0");
        Scenes.dueOfOne(9, "MOST..MOST", 2, "65535..65535");
        Scenes.dueOfOne(9, "LEAST..MOST", 2, "0..65535");
    }
}
