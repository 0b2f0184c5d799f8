/**
 * Small programs that the tests of edges share. A SET is told as a text, "0..3 5..9", and LEAST and MOST may
 * stand in it for their numbers. PLACES 5 to 7 serve the telling; PLACES 0 to 4 are the tests' own.
 */
final class Scenes {
    static final int LEAST = Integer.MIN_VALUE;
    static final int MOST = Integer.MAX_VALUE;

    private static final int IDLE = 5;
    private static final int ZERO = 6;
    private static final int CHOICE = 7;

    private Scenes() {
    }

    static String inNumbers(String set) {
        return set.replace("LEAST", "-2147483648").replace("MOST", "2147483647");
    }

    static void dueSet(String what, WholeSpans x, int at, int place, String want) {
        Checks.dueSet(what, x, at, place, inNumbers(want));
    }

    /** Tells STATEMENTS behind which the PLACE has these SPANS, JOINED; they come to the next STATEMENT as one SET. */
    static void tellSet(WholeSpans x, int place, String set) {
        String[] spans = inNumbers(set).split(" ");
        if (spans.length > 1) {
            x.op(10, CHOICE, 0, 1);
        }
        tellSpan(x, place, spans[0]);
        if (spans.length > 1) {
            x.op(13, CHOICE, ZERO, x.size() + 2);
            tellSpan(x, place, spans[1]);
        }
        idle(x);
    }

    private static void tellSpan(WholeSpans x, int place, String span) {
        String[] ends = span.split("\\.\\.");
        x.op(10, place, Integer.parseInt(ends[0]), Integer.parseInt(ends[1]));
    }

    /** A STATEMENT that changes no PLACE. */
    static int idle(WholeSpans x) {
        return x.op(1, IDLE, IDLE, 0);
    }

    /** Either the STATEMENT that is named is next, or the one behind: both ways can be gone. */
    static void either(WholeSpans x, int named) {
        x.op(10, CHOICE, 0, 1);
        x.op(13, CHOICE, ZERO, named);
    }

    static int stop(WholeSpans x) {
        return x.op(19, 0, 0, 0);
    }

    /** What an act makes of SETS of PLACES 0 (b) and 1 (c); "" for nothing: there is no next STATEMENT. */
    static void dueOfTwo(int kind, String b, String c, String want) {
        WholeSpans x = new WholeSpans();
        tellSet(x, 0, b);
        tellSet(x, 1, c);
        int act = x.op(kind, 2, 0, 1);
        int behind = stop(x);
        x.run();
        String what = "kind " + kind + " of " + b + " and " + c;
        dueSet(what, x, behind, 2, want);
        Checks.due(what + ": reached", x.reached(behind) ? 1 : 0, want.isEmpty() ? 0 : 1);
        boolean throwing = (kind == 7 || kind == 8) && has(x, act, 1, 0);
        Checks.due(what + ": ways", x.ways(act), (throwing ? 1 : 0) + (want.isEmpty() ? 0 : 4));
    }

    /** What an act makes of the SET of PLACE 0 and a number. */
    static void dueOfOne(int kind, String b, int c, String want) {
        WholeSpans x = new WholeSpans();
        tellSet(x, 0, b);
        int act = x.op(kind, 2, 0, c);
        int behind = stop(x);
        x.run();
        dueSet("kind " + kind + " of " + b + ", " + c, x, behind, 2, want);
        Checks.due("kind " + kind + " of " + b + ", " + c + ": ways", x.ways(act), 4);
    }

    private static boolean has(WholeSpans x, int at, int place, int number) {
        for (int k = 0; k < x.pieces(at, place); k++) {
            if (x.end(at, place, k, false) <= number && number <= x.end(at, place, k, true)) {
                return true;
            }
        }
        return false;
    }
}
