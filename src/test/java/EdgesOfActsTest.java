/** The edges that the document's section 2 names: what a STATEMENT makes of SETS; one sentence a method. */
public final class EdgesOfActsTest {
    private static final int LEAST = Scenes.LEAST;
    private static final int MOST = Scenes.MOST;

    private EdgesOfActsTest() {
    }

    public static void main(String[] args) {
        numbers();
        anyNumber();
        copies();
        eachSpanWithEach();
        theSamePlaceTwice();
        fourProducts();
        bitsKept();
        bitsOfWhatIsNotBelowZero();
        bitsOfWhatIsBelowZero();
        moved();
        quotientsTowardsZero();
        quotientsBelowAndAbove();
        quotientThatGoesRound();
        quotientsOfManyParts();
        restsThatAreLess();
        restsUpToTheGreatest();
        restsOnOneSideOfZero();
        restsBySizesWithoutSign();
        restsByTheWholeSet();
        nothingComesOfZero();
        theDivisorStaysAsItIs();
        Checks.finish("EdgesOfActsTest");
    }

    /** "0 a = the number b": LEAST and MOST are numbers too. */
    private static void numbers() {
        for (int number : new int[] {LEAST, -1, 0, 1, MOST}) {
            WholeSpans x = new WholeSpans();
            x.op(0, 7, number, 0);
            Scenes.stop(x);
            x.run();
            Scenes.dueSet("the number " + number, x, 1, 7, number + ".." + number);
        }
    }

    /** "10: b .. c": one number, or all. */
    private static void anyNumber() {
        int[][] spans = {{LEAST, LEAST}, {MOST, MOST}, {LEAST, MOST}, {0, 0}, {-1, 1}};
        for (int[] span : spans) {
            WholeSpans x = new WholeSpans();
            x.op(10, 0, span[0], span[1]);
            Scenes.stop(x);
            x.run();
            Scenes.dueSet("any number", x, 1, 0, span[0] + ".." + span[1]);
        }
    }

    /** "1 a = b": both SPANS; the first and the last PLACE. */
    private static void copies() {
        WholeSpans x = new WholeSpans();
        x.begin(0, LEAST, MOST);
        x.op(1, 7, 0, 0);
        Scenes.tellSet(x, 1, "LEAST..-1 1..MOST");
        x.op(1, 0, 1, 0);
        int at = Scenes.stop(x);
        x.run();
        Scenes.dueSet("copy to 7", x, 1, 7, "LEAST..MOST");
        Scenes.dueSet("copy to 0", x, at, 0, "LEAST..-1 1..MOST");
        Scenes.dueSet("copied from", x, at, 1, "LEAST..-1 1..MOST");
    }

    /** "MADE of what comes of each SPAN of b with each of c (if it has both)". */
    private static void eachSpanWithEach() {
        Scenes.dueOfTwo(2, "0..1 10..11", "5..5", "5..6 15..16");
        Scenes.dueOfTwo(2, "5..5", "0..1 10..11", "5..6 15..16");
        Scenes.dueOfTwo(3, "0..1 10..11", "5..5", "-5..-4 5..6");
        Scenes.dueOfTwo(3, "5..5", "0..1 10..11", "-6..-5 4..5");
        Scenes.dueOfTwo(3, "0..0 100..100", "0..0 1000..1000", "-1000..-900 0..100");
        Scenes.dueOfTwo(4, "-2..-1 3..4", "10..10", "-20..-10 30..40");
        Scenes.dueOfTwo(4, "-2..-1 3..4", "-1..-1 1..1", "-4..-1 1..4");
        Scenes.dueOfTwo(7, "-9..-8 8..9", "4..4", "-2..-2 2..2");
        // Each of four sums goes round at both ends.
        Scenes.dueOfTwo(2, "LEAST..LEAST MOST..MOST", "-1..-1 1..1",
                "LEAST..-2147483647 2147483646..MOST");
    }

    /** The PLACE b may be the PLACE c, and a one of them: ends are taken as if they were two PLACES. */
    private static void theSamePlaceTwice() {
        int[] kinds = {2, 3, 4, 7, 8};
        String[] of = {"-4..6", "-5..5", "-6..9", "-3..3", "-2..2"};
        for (int i = 0; i < kinds.length; i++) {
            WholeSpans x = new WholeSpans();
            x.begin(0, -2, 3);
            x.op(kinds[i], 0, 0, 0);
            Scenes.stop(x);
            x.run();
            Scenes.dueSet("kind " + kinds[i] + " of one PLACE alone", x, 1, 0, of[i]);
        }
    }

    /** "4: WRAPPED least to greatest of the four products of the SPANS' ends": each of the four may be either. */
    private static void fourProducts() {
        Scenes.dueOfTwo(4, "2..3", "5..7", "10..21");
        Scenes.dueOfTwo(4, "-3..-2", "-7..-5", "10..21");
        Scenes.dueOfTwo(4, "-3..-2", "5..7", "-21..-10");
        Scenes.dueOfTwo(4, "2..3", "-7..-5", "-21..-10");
        Scenes.dueOfTwo(4, "-3..2", "-5..4", "-12..15");
        Scenes.dueOfTwo(4, "-2..3", "-4..5", "-12..15");
        Scenes.dueOfTwo(4, "0..0", "LEAST..MOST", "0..0");
        Scenes.dueOfTwo(4, "1..1", "LEAST..MOST", "LEAST..MOST");
    }

    /** "5: of x .. y: x .. y, if x is 0 or more, y at most c, and c and 1 a power of 2". */
    private static void bitsKept() {
        Scenes.dueOfOne(5, "3..7", 7, "3..7");
        Scenes.dueOfOne(5, "0..0", 0, "0..0");
        Scenes.dueOfOne(5, "0..3", 7, "0..3");
        Scenes.dueOfOne(5, "1..1", 1, "1..1");
        Scenes.dueOfOne(5, "5..MOST", MOST, "5..MOST");
        Scenes.dueOfOne(5, "MOST..MOST", MOST, "MOST..MOST");
        Scenes.dueOfOne(5, "1..1 4..7", 7, "1..1 4..7");
    }

    /** "else 0 .. the lesser of c and y, if x is 0 or more". */
    private static void bitsOfWhatIsNotBelowZero() {
        Scenes.dueOfOne(5, "3..8", 7, "0..7");
        Scenes.dueOfOne(5, "0..5", 6, "0..5");
        Scenes.dueOfOne(5, "8..9", 7, "0..7");
        Scenes.dueOfOne(5, "3..6", 6, "0..6");
        Scenes.dueOfOne(5, "3..5", 6, "0..5");
        Scenes.dueOfOne(5, "3..7", 6, "0..6");
        Scenes.dueOfOne(5, "2..2", 2, "0..2");
        Scenes.dueOfOne(5, "1..1", 2, "0..1");
        Scenes.dueOfOne(5, "8..8", 8, "0..8");
        Scenes.dueOfOne(5, "1..9", 0, "0..0");
        Scenes.dueOfOne(5, "5..MOST", 2147483646, "0..2147483646");
        Scenes.dueOfOne(5, "1..1 4..8", 7, "0..7");
        Scenes.dueOfOne(5, "0..0 6..6", 4, "0..4");
    }

    /** "else 0 .. c". */
    private static void bitsOfWhatIsBelowZero() {
        Scenes.dueOfOne(5, "-1..3", 7, "0..7");
        Scenes.dueOfOne(5, "-1..-1", 0, "0..0");
        Scenes.dueOfOne(5, "-1..3", MOST, "0..MOST");
        Scenes.dueOfOne(5, "LEAST..LEAST", 9, "0..9");
        Scenes.dueOfOne(5, "-5..-3 2..3", 9, "0..9");
    }

    /** "6: both ends moved": by 0, by 31, with the sign. */
    private static void moved() {
        Scenes.dueOfOne(6, "-5..9", 0, "-5..9");
        Scenes.dueOfOne(6, "-5..9", 1, "-3..4");
        Scenes.dueOfOne(6, "LEAST..MOST", 31, "-1..0");
        Scenes.dueOfOne(6, "LEAST..-1", 31, "-1..-1");
        Scenes.dueOfOne(6, "0..MOST", 31, "0..0");
        Scenes.dueOfOne(6, "LEAST..MOST", 30, "-2..1");
        Scenes.dueOfOne(6, "-3..-1 2..3", 1, "-2..-1 1..1");
        // What was apart may touch then.
        Scenes.dueOfOne(6, "-3..-1 1..3", 1, "-2..1");
        Scenes.dueOfOne(6, "LEAST..LEAST MOST..MOST", 31, "-1..0");
    }

    /** "7 a = b / c, towards 0". */
    private static void quotientsTowardsZero() {
        Scenes.dueOfTwo(7, "-7..-7", "2..2", "-3..-3");
        Scenes.dueOfTwo(7, "7..7", "-2..-2", "-3..-3");
        Scenes.dueOfTwo(7, "-7..-7", "-2..-2", "3..3");
        Scenes.dueOfTwo(7, "-1..1", "2..2", "0..0");
        Scenes.dueOfTwo(7, "-10..10", "2..5", "-5..5");
        Scenes.dueOfTwo(7, "LEAST..MOST", "LEAST..LEAST", "0..1");
        Scenes.dueOfTwo(7, "LEAST..MOST", "MOST..MOST", "-1..1");
    }

    /** "c's SPANS without 0 (what is below, what is above it, each if there is something)". */
    private static void quotientsBelowAndAbove() {
        Scenes.dueOfTwo(7, "10..20", "-2..3", "-20..-5 3..20");
        Scenes.dueOfTwo(7, "10..20", "0..3", "3..20");
        Scenes.dueOfTwo(7, "10..20", "-2..0", "-20..-5");
        Scenes.dueOfTwo(7, "10..20", "0..1", "10..20");
        Scenes.dueOfTwo(7, "10..20", "-1..0", "-20..-10");
        Scenes.dueOfTwo(7, "10..20", "-1..1", "-20..-10 10..20");
        Scenes.dueOfTwo(7, "10..20", "0..0 5..5", "2..4");
        Scenes.dueOfTwo(7, "10..20", "-5..-5 0..0", "-4..-2");
        Scenes.dueOfTwo(7, "LEAST..LEAST", "LEAST..MOST", "LEAST..-1 1..MOST");
    }

    /** LEAST / -1 is 2147483648, which goes round: "WRAPPED". */
    private static void quotientThatGoesRound() {
        Scenes.dueOfTwo(7, "LEAST..LEAST", "-1..-1", "LEAST..LEAST");
        Scenes.dueOfTwo(7, "LEAST..-2147483647", "-1..-1", "LEAST..LEAST MOST..MOST");
        Scenes.dueOfTwo(7, "LEAST..-5", "-1..-1", "LEAST..LEAST 5..MOST");
        Scenes.dueOfTwo(7, "LEAST..LEAST", "-2..-1", "LEAST..LEAST 1073741824..MOST");
        Scenes.dueOfTwo(7, "-2147483647..-2147483647", "-1..-1", "MOST..MOST");
    }

    /** Two SPANS by three parts of c are six, and MADE two. */
    private static void quotientsOfManyParts() {
        Scenes.dueOfTwo(7, "-20..-10 10..20", "-2..1 5..5", "-20..-2 2..20");
        Scenes.dueOfTwo(7, "-20..-10 10..20", "-5..-5 -1..2", "-20..-2 2..20");
        Scenes.dueOfTwo(7, "100..100 9000..9000", "-1..1 10..10", "-9000..-9000 -100..9000");
        // By -1 the lower SPAN goes round at both ends: seven in all.
        Scenes.dueOfTwo(7, "LEAST..-2147483640 5..5", "-1..1 3..3", "LEAST..5 2147483640..MOST");
    }

    /** "8: .. of x .. y: x .. y, if all are less than S in size". */
    private static void restsThatAreLess() {
        Scenes.dueOfTwo(8, "5..9", "10..20", "5..9");
        Scenes.dueOfTwo(8, "-9..-5", "10..20", "-9..-5");
        Scenes.dueOfTwo(8, "5..10", "10..20", "0..10");
        Scenes.dueOfTwo(8, "-10..-5", "10..20", "-10..0");
        Scenes.dueOfTwo(8, "0..0", "1..1", "0..0");
        Scenes.dueOfTwo(8, "1..1", "1..1", "0..0");
        Scenes.dueOfTwo(8, "5..9 -9..-7", "10..20", "-9..-7 5..9");
        Scenes.dueOfTwo(8, "5..9 12..13", "10..20", "0..13");
    }

    /** "else from the greater of x and -(G - 1) .. to the lesser of y and G - 1". */
    private static void restsUpToTheGreatest() {
        Scenes.dueOfTwo(8, "-30..30", "10..20", "-19..19");
        Scenes.dueOfTwo(8, "-20..20", "10..20", "-19..19");
        Scenes.dueOfTwo(8, "-19..19", "10..20", "-19..19");
        Scenes.dueOfTwo(8, "-18..18", "10..20", "-18..18");
        Scenes.dueOfTwo(8, "-18..30", "10..20", "-18..19");
        Scenes.dueOfTwo(8, "-30..18", "10..20", "-19..18");
        Scenes.dueOfTwo(8, "LEAST..MOST", "1..1", "0..0");
        Scenes.dueOfTwo(8, "LEAST..MOST", "MOST..MOST", "-2147483646..2147483646");
    }

    /** "(0, if x is 0 or more)" and "(0, if y is 0 or less)". */
    private static void restsOnOneSideOfZero() {
        Scenes.dueOfTwo(8, "0..30", "10..20", "0..19");
        Scenes.dueOfTwo(8, "1..30", "10..20", "0..19");
        Scenes.dueOfTwo(8, "-1..30", "10..20", "-1..19");
        Scenes.dueOfTwo(8, "-30..0", "10..20", "-19..0");
        Scenes.dueOfTwo(8, "-30..-1", "10..20", "-19..0");
        Scenes.dueOfTwo(8, "-30..1", "10..20", "-19..1");
        Scenes.dueOfTwo(8, "30..30", "10..20", "0..19");
        Scenes.dueOfTwo(8, "-30..-30", "10..20", "-19..0");
    }

    /** "size (without sign, exact) of a number of c but 0": that of LEAST is 2147483648. */
    private static void restsBySizesWithoutSign() {
        Scenes.dueOfTwo(8, "5..30", "-20..-10", "0..19");
        Scenes.dueOfTwo(8, "5..9", "-20..-10", "5..9");
        Scenes.dueOfTwo(8, "5..MOST", "LEAST..LEAST", "5..MOST");
        Scenes.dueOfTwo(8, "-2147483647..-5", "LEAST..LEAST", "-2147483647..-5");
        Scenes.dueOfTwo(8, "LEAST..-5", "LEAST..LEAST", "-2147483647..0");
        Scenes.dueOfTwo(8, "LEAST..MOST", "LEAST..MOST", "-2147483647..MOST");
        Scenes.dueOfTwo(8, "LEAST..LEAST", "-1..-1", "0..0");
        Scenes.dueOfTwo(8, "-30..30", "-7..3", "-6..6");
        Scenes.dueOfTwo(8, "-30..30", "-3..7", "-6..6");
        // 0 itself has no size here: S is 1.
        Scenes.dueOfTwo(8, "0..0", "0..5", "0..0");
        Scenes.dueOfTwo(8, "1..1", "0..5", "0..1");
        Scenes.dueOfTwo(8, "3..3", "-1..1", "0..0");
    }

    /** "G the greatest and S the least size .. of a number of c": of c as a whole. */
    private static void restsByTheWholeSet() {
        Scenes.dueOfTwo(8, "1..1", "-3..-2 7..9", "1..1");
        Scenes.dueOfTwo(8, "2..20", "-3..-2 7..9", "0..8");
        Scenes.dueOfTwo(8, "5..5", "3..3 10..10", "0..5");
        Scenes.dueOfTwo(8, "3..3", "0..0 4..4", "3..3");
        Scenes.dueOfTwo(8, "-3..-3", "-4..-4 0..0", "-3..-3");
        Scenes.dueOfTwo(8, "3..30", "-12..-11 0..0", "0..11");
    }

    /** "If c has none but 0, nothing comes of 7 and 8: there is no next STATEMENT." */
    private static void nothingComesOfZero() {
        for (int kind = 7; kind <= 8; kind++) {
            Scenes.dueOfTwo(kind, "5..6", "0..0", "");
            Scenes.dueOfTwo(kind, "0..0", "0..0", "");
            Scenes.dueOfTwo(kind, "LEAST..-1 1..MOST", "0..0", "");
            WholeSpans x = new WholeSpans();
            x.op(kind, 0, 0, 0);
            Scenes.idle(x);
            Checks.due("nothing comes: run", x.run(), 1);
            Checks.due("nothing comes: ways", x.ways(0), 1);
            Checks.due("nothing comes: reached", x.told(2), 1);
            Checks.due("nothing comes: ways of the next", x.ways(1), 0);
        }
    }

    /** Behind 7 and 8, c is what it was: that it is not 0 there is not told. */
    private static void theDivisorStaysAsItIs() {
        for (int kind = 7; kind <= 8; kind++) {
            WholeSpans x = new WholeSpans();
            x.begin(1, -1, 1);
            x.op(kind, 0, 0, 1);
            Scenes.stop(x);
            x.run();
            Scenes.dueSet("divisor behind " + kind, x, 1, 1, "-1..1");
        }
    }
}
