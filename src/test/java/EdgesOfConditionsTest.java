/** The edges that the document's section 3 names: SHARPENED by 11 to 17; one sentence a method. */
public final class EdgesOfConditionsTest {
    private static final int LESS = 0;
    private static final int AT_MOST = 1;
    private static final int EQUAL = 2;
    private static final int OTHER = 3;
    private static final int AT_LEAST = 4;
    private static final int MORE = 5;
    private static final int LESS_WITHOUT_SIGN = 6;

    private EdgesOfConditionsTest() {
    }

    public static void main(String[] args) {
        lessByOne();
        lessThanLeast();
        lessWithTwoSpans();
        atMostTheSame();
        equalInCommon();
        otherAtAnEnd();
        otherInTheMiddle();
        otherBothEnds();
        otherWhereXIsAlone();
        otherAtLeastAndMost();
        moreAndAtLeastTurned();
        theOtherOneHolds();
        withoutSignBelow();
        withoutSignNothingIsSharpened();
        withoutSignYStays();
        samePlace();
        otherPlacesStay();
        namedOneNotThere();
        Checks.finish("EdgesOfConditionsTest");
    }

    /** x and y where the condition is so; "" for a way that is not gone. */
    private static void dueSo(int r, String x, String y, String wantX, String wantY) {
        dueWay(r, true, x, y, wantX, wantY);
    }

    private static void dueNotSo(int r, String x, String y, String wantX, String wantY) {
        dueWay(r, false, x, y, wantX, wantY);
    }

    private static void dueWay(int r, boolean so, String x, String y, String wantX, String wantY) {
        WholeSpans object = new WholeSpans();
        Scenes.tellSet(object, 0, x);
        Scenes.tellSet(object, 1, y);
        int condition = object.op(11 + r, 0, 1, object.size() + 2);
        int behind = Scenes.stop(object);
        int named = Scenes.stop(object);
        object.run();
        String what = (so ? "" : "not ") + "condition " + r + " of " + x + " and " + y;
        int at = so ? named : behind;
        Scenes.dueSet(what, object, at, 0, wantX);
        Scenes.dueSet(what, object, at, 1, wantY);
        Checks.due(what + ": reached", object.reached(at) ? 1 : 0, wantX.isEmpty() ? 0 : 1);
        int way = so ? 2 : 4;
        Checks.due(what + ": way", object.ways(condition) & way, wantX.isEmpty() ? 0 : way);
    }

    /** "a < b: x with LEAST .. the greatest of y less 1, y with the least of x and 1 .. MOST (as they were, both)". */
    private static void lessByOne() {
        dueSo(LESS, "3..8", "0..5", "3..4", "4..5");
        dueSo(LESS, "4..8", "0..5", "4..4", "5..5");
        dueSo(LESS, "5..8", "0..5", "", "");
        dueSo(LESS, "5..5", "5..6", "5..5", "6..6");
        dueSo(LESS, "0..9", "0..9", "0..8", "1..9");
        dueSo(LESS, "LEAST..MOST", "LEAST..MOST", "LEAST..2147483646", "-2147483647..MOST");
    }

    /** Nothing is less than LEAST, and MOST is less than nothing: 1 less and 1 more do not go round. */
    private static void lessThanLeast() {
        dueSo(LESS, "LEAST..MOST", "LEAST..LEAST", "", "");
        dueSo(LESS, "MOST..MOST", "LEAST..MOST", "", "");
        dueSo(LESS, "LEAST..MOST", "LEAST..-2147483647", "LEAST..LEAST", "-2147483647..-2147483647");
        dueSo(LESS, "2147483646..MOST", "LEAST..MOST", "2147483646..2147483646", "MOST..MOST");
    }

    private static void lessWithTwoSpans() {
        dueSo(LESS, "0..3 7..9", "0..1 7..7", "0..3", "1..1 7..7");
        dueSo(LESS, "0..3 7..9", "-5..-5 8..8", "0..3 7..7", "8..8");
        dueSo(LESS, "0..3 7..9", "-5..-3 0..0", "", "");
        dueSo(AT_MOST, "0..3 7..9", "0..1 7..7", "0..3 7..7", "0..1 7..7");
        dueSo(AT_MOST, "0..3 7..9", "-5..-3 0..0", "0..0", "0..0");
    }

    /** "a <= b: likewise without less 1, and 1". */
    private static void atMostTheSame() {
        dueSo(AT_MOST, "5..9", "0..5", "5..5", "5..5");
        dueSo(AT_MOST, "6..9", "0..5", "", "");
        dueSo(AT_MOST, "3..8", "0..5", "3..5", "3..5");
        dueSo(AT_MOST, "LEAST..MOST", "LEAST..LEAST", "LEAST..LEAST", "LEAST..LEAST");
        dueSo(AT_MOST, "MOST..MOST", "LEAST..MOST", "MOST..MOST", "MOST..MOST");
    }

    /** "a = b: both become what they have in COMMON". */
    private static void equalInCommon() {
        dueSo(EQUAL, "0..5", "5..9", "5..5", "5..5");
        dueSo(EQUAL, "0..4", "5..9", "", "");
        dueSo(EQUAL, "0..2 8..9", "2..8", "2..2 8..8", "2..2 8..8");
        dueSo(EQUAL, "0..2 8..9", "3..7", "", "");
        dueSo(EQUAL, "0..10 20..30", "5..22 28..40", "5..10 20..30", "5..10 20..30");
    }

    /** "a is not b: if y is one number alone, x loses it, where it is an end of a SPAN of x". */
    private static void otherAtAnEnd() {
        dueSo(OTHER, "0..9", "0..0", "1..9", "0..0");
        dueSo(OTHER, "0..9", "9..9", "0..8", "9..9");
        dueSo(OTHER, "0..1", "0..0", "1..1", "0..0");
        dueSo(OTHER, "0..3 6..9", "3..3", "0..2 6..9", "3..3");
        dueSo(OTHER, "0..3 6..9", "6..6", "0..3 7..9", "6..6");
        dueSo(OTHER, "0..3 6..9", "0..0", "1..3 6..9", "0..0");
        dueSo(OTHER, "0..3 6..9", "9..9", "0..3 6..8", "9..9");
    }

    /** In the middle of a SPAN it is no end, and a y of more numbers than one takes nothing. */
    private static void otherInTheMiddle() {
        dueSo(OTHER, "0..9", "5..5", "0..9", "5..5");
        dueSo(OTHER, "0..9", "-1..-1", "0..9", "-1..-1");
        dueSo(OTHER, "0..9", "10..10", "0..9", "10..10");
        dueSo(OTHER, "0..3 6..9", "5..5", "0..3 6..9", "5..5");
        dueSo(OTHER, "0..9", "0..1", "0..9", "0..1");
        dueSo(OTHER, "0..9", "0..0 9..9", "0..9", "0..0 9..9");
    }

    /** "(both ends, if the SPAN is that alone)": the SPAN goes, and with the last one the way. */
    private static void otherBothEnds() {
        dueSo(OTHER, "5..5", "5..5", "", "");
        dueSo(OTHER, "0..3 5..5", "5..5", "0..3", "5..5");
        dueSo(OTHER, "0..0 5..9", "0..0", "5..9", "0..0");
        dueSo(OTHER, "0..0 5..5", "0..0", "5..5", "0..0");
    }

    /** "if x (as it was) is one number alone, y likewise". */
    private static void otherWhereXIsAlone() {
        dueSo(OTHER, "5..5", "5..9", "5..5", "6..9");
        dueSo(OTHER, "5..5", "0..5", "5..5", "0..4");
        dueSo(OTHER, "5..5", "0..9", "5..5", "0..9");
        dueSo(OTHER, "5..5", "0..3 5..5", "5..5", "0..3");
        dueSo(OTHER, "5..5", "7..7", "5..5", "7..7");
        // x has one number alone only when it has lost 5: y is not looked at again.
        dueSo(OTHER, "4..5", "5..5", "4..4", "5..5");
    }

    /** An end that is LEAST or MOST is lost without going round. */
    private static void otherAtLeastAndMost() {
        dueSo(OTHER, "LEAST..MOST", "LEAST..LEAST", "-2147483647..MOST", "LEAST..LEAST");
        dueSo(OTHER, "LEAST..MOST", "MOST..MOST", "LEAST..2147483646", "MOST..MOST");
        dueSo(OTHER, "LEAST..LEAST", "LEAST..LEAST", "", "");
        dueSo(OTHER, "MOST..MOST", "MOST..MOST", "", "");
        dueSo(OTHER, "LEAST..LEAST MOST..MOST", "MOST..MOST", "LEAST..LEAST", "MOST..MOST");
        dueSo(OTHER, "LEAST..LEAST MOST..MOST", "LEAST..LEAST", "MOST..MOST", "LEAST..LEAST");
    }

    /** "a >= b, a > b: as b <= a, b < a". */
    private static void moreAndAtLeastTurned() {
        dueSo(MORE, "0..5", "3..8", "4..5", "3..4");
        dueSo(MORE, "0..5", "5..8", "", "");
        dueSo(MORE, "LEAST..LEAST", "LEAST..MOST", "", "");
        dueSo(MORE, "LEAST..MOST", "MOST..MOST", "", "");
        dueSo(MORE, "LEAST..MOST", "LEAST..MOST", "-2147483647..MOST", "LEAST..2147483646");
        dueSo(AT_LEAST, "0..5", "3..8", "3..5", "3..5");
        dueSo(AT_LEAST, "0..5", "5..8", "5..5", "5..5");
        dueSo(AT_LEAST, "0..5", "6..8", "", "");
        dueSo(AT_LEAST, "LEAST..LEAST", "LEAST..MOST", "LEAST..LEAST", "LEAST..LEAST");
    }

    /** "If STATEMENT c is not next, the other one holds: not a < b is a >= b, and so on". */
    private static void theOtherOneHolds() {
        dueNotSo(LESS, "0..5", "3..8", "3..5", "3..5");
        dueNotSo(LESS, "0..5", "6..8", "", "");
        dueNotSo(AT_MOST, "0..5", "3..8", "4..5", "3..4");
        dueNotSo(AT_MOST, "0..5", "5..8", "", "");
        dueNotSo(EQUAL, "0..9", "9..9", "0..8", "9..9");
        dueNotSo(EQUAL, "9..9", "9..9", "", "");
        dueNotSo(OTHER, "0..5", "5..9", "5..5", "5..5");
        dueNotSo(OTHER, "0..4", "5..9", "", "");
        dueNotSo(AT_LEAST, "3..8", "0..5", "3..4", "4..5");
        dueNotSo(AT_LEAST, "5..8", "0..5", "", "");
        dueNotSo(MORE, "3..8", "0..5", "3..5", "3..5");
        dueNotSo(MORE, "6..8", "0..5", "", "");
    }

    /** "Without sign: if y has no number below 0, x with 0 .. the greatest of y less 1". */
    private static void withoutSignBelow() {
        dueSo(LESS_WITHOUT_SIGN, "-5..20", "0..10", "0..9", "0..10");
        dueSo(LESS_WITHOUT_SIGN, "LEAST..MOST", "0..MOST", "0..2147483646", "0..MOST");
        dueSo(LESS_WITHOUT_SIGN, "LEAST..MOST", "1..1", "0..0", "1..1");
        dueSo(LESS_WITHOUT_SIGN, "LEAST..MOST", "0..0", "", "");
        dueSo(LESS_WITHOUT_SIGN, "LEAST..-1", "0..MOST", "", "");
        dueSo(LESS_WITHOUT_SIGN, "9..20", "0..10", "9..9", "0..10");
        dueSo(LESS_WITHOUT_SIGN, "10..20", "0..10", "", "");
        dueSo(LESS_WITHOUT_SIGN, "-3..-1 4..9", "0..0 6..6", "4..5", "0..0 6..6");
    }

    /** "else nothing is sharpened", and "not without sign sharpens nothing". */
    private static void withoutSignNothingIsSharpened() {
        dueSo(LESS_WITHOUT_SIGN, "-5..20", "-1..10", "-5..20", "-1..10");
        dueSo(LESS_WITHOUT_SIGN, "-5..20", "LEAST..LEAST", "-5..20", "LEAST..LEAST");
        dueSo(LESS_WITHOUT_SIGN, "-5..20", "-1..-1 6..6", "-5..20", "-1..-1 6..6");
        dueNotSo(LESS_WITHOUT_SIGN, "-5..20", "0..10", "-5..20", "0..10");
        dueNotSo(LESS_WITHOUT_SIGN, "0..1", "5..9", "0..1", "5..9");
        dueNotSo(LESS_WITHOUT_SIGN, "5..5", "5..5", "5..5", "5..5");
    }

    private static void withoutSignYStays() {
        dueSo(LESS_WITHOUT_SIGN, "5..20", "0..10", "5..9", "0..10");
        dueSo(LESS_WITHOUT_SIGN, "0..0", "0..10", "0..0", "0..10");
    }

    /** "With a and b the same PLACE: the ways of a <= a, a = a, a >= a alone are gone, with its SET as it is". */
    private static void samePlace() {
        boolean[] so = {false, true, true, false, true, false, false};
        for (int r = 0; r < so.length; r++) {
            for (String set : new String[] {"-2..-1 6..7", "5..5", "LEAST..MOST"}) {
                WholeSpans x = new WholeSpans();
                Scenes.tellSet(x, 3, set);
                int condition = x.op(11 + r, 3, 3, x.size() + 2);
                Scenes.stop(x);
                Scenes.stop(x);
                x.run();
                String what = "condition " + r + " of the same PLACE";
                Checks.due(what, x.ways(condition), so[r] ? 2 : 4);
                Scenes.dueSet(what, x, condition + 2, 3, so[r] ? set : "");
                Scenes.dueSet(what, x, condition + 1, 3, so[r] ? "" : set);
            }
        }
    }

    /** No PLACE but a and b is sharpened. */
    private static void otherPlacesStay() {
        for (int r = 0; r < 7; r++) {
            WholeSpans x = new WholeSpans();
            for (int place = 0; place < 8; place++) {
                x.begin(place, -place, 9);
            }
            x.op(11 + r, 7, 0, 2);
            Scenes.stop(x);
            Scenes.stop(x);
            x.run();
            for (int place = 1; place < 7; place++) {
                Scenes.dueSet("not named by condition " + r, x, 1, place, -place + "..9");
                Scenes.dueSet("not named by condition " + r, x, 2, place, -place + "..9");
            }
        }
    }

    /** A way to "a STATEMENT that is not there" can be gone, or not, as any other. */
    private static void namedOneNotThere() {
        for (int named : new int[] {1, 2, 40}) {
            WholeSpans x = new WholeSpans();
            x.begin(0, 0, 1);
            x.op(13, 0, 1, named);
            Checks.due("not there: run", x.run(), 1);
            Checks.due("not there: ways", x.ways(0), 6);
            x.begin(1, 2, 2);
            x.run();
            Checks.due("not there, never so: ways", x.ways(0), 4);
        }
    }
}
