/** The edges that promises 1 to 10, 14 and 15 name, where a call is not refused; one sentence a method. */
public final class EdgesOfCallsTest {
    private static final int LEAST = Scenes.LEAST;
    private static final int MOST = Scenes.MOST;

    private EdgesOfCallsTest() {
    }

    public static void main(String[] args) {
        newObject();
        numberedFromZero();
        fortyAtMost();
        kindsAtBothEnds();
        placesAtBothEnds();
        numbersNotLookedAt();
        numbersAtBothEnds();
        nextAtBothEnds();
        howManyNumbers();
        beginAnew();
        changedSinceRun();
        readingIsNoChange();
        reachedOrNot();
        piecesNoneOneTwo();
        endsOfSpans();
        waysOfEachKind();
        toldOfTheLatest();
        thresholdsOfNone();
        thresholdsEachOnce();
        thresholdsOfKinds();
        thresholdsMost();
        clearForgets();
        clearOfFull();
        sizeCounts();
        Checks.finish("EdgesOfCallsTest");
    }

    /** "WholeSpans(): No STATEMENTS." */
    private static void newObject() {
        WholeSpans x = new WholeSpans();
        Checks.due("new: size", x.size(), 0);
        Checks.due("new: clear", x.clear(), 0);
        Checks.due("new: ended", x.ended(), -1);
        Checks.due("new: the first number", x.op(19, 0, 0, 0), 0);
        // What one object was told, another one does not know.
        Checks.due("another new: size", new WholeSpans().size(), 0);
    }

    /** "STATEMENTS .. are numbered from 0 as they are told": a refused one takes no number. */
    private static void numberedFromZero() {
        WholeSpans x = new WholeSpans();
        Checks.due("first", x.op(0, 0, 0, 0), 0);
        Checks.dueThrow("refused", Checks.INDEX, () -> x.op(0, 8, 0, 0));
        Checks.due("second", x.op(0, 0, 0, 0), 1);
        Checks.dueThrow("refused", Checks.ARGUMENT, () -> x.op(20, 0, 0, 0));
        Checks.due("third", x.op(0, 0, 0, 0), 2);
    }

    /** "STATEMENTS, 40 at most": the fortieth is told, the next is refused. */
    private static void fortyAtMost() {
        WholeSpans x = new WholeSpans();
        for (int i = 0; i < 39; i++) {
            Scenes.idle(x);
        }
        Checks.due("the fortieth", Scenes.idle(x), 39);
        for (int kind = 0; kind <= 19; kind++) {
            int one = kind;
            Checks.dueThrow("one more, of kind " + kind, Checks.UNSUPPORTED, () -> x.op(one, 0, 0, 0));
        }
        Checks.due("size", x.size(), 40);
        x.run();
        Checks.due("reached(39)", x.reached(39) ? 1 : 0, 1);
        Checks.due("ways(39): the one behind it, which is not there", x.ways(39), 4);
    }

    /** "kind is not 0 .. 19". */
    private static void kindsAtBothEnds() {
        WholeSpans x = new WholeSpans();
        for (int kind = 0; kind <= 19; kind++) {
            Checks.due("kind " + kind, x.op(kind, 0, 0, 0), kind);
        }
        for (int kind : new int[] {LEAST, -1, 20, 21, MOST}) {
            Checks.dueThrow("kind " + kind, Checks.ARGUMENT, () -> x.op(kind, 0, 0, 0));
        }
    }

    /** "PLACES are 0 .. 7": a of 0 to 17, b of 1 to 9 and 11 to 17, c of 2, 3, 4, 7, 8. */
    private static void placesAtBothEnds() {
        for (int kind = 0; kind <= 17; kind++) {
            duePlaces(kind, 0);
            if (kind != 0 && kind != 10) {
                duePlaces(kind, 1);
            }
        }
        for (int kind : new int[] {2, 3, 4, 7, 8}) {
            duePlaces(kind, 2);
        }
    }

    private static void duePlaces(int kind, int which) {
        WholeSpans x = new WholeSpans();
        String what = "kind " + kind + ", PLACE " + "abc".charAt(which) + " = ";
        for (int place : new int[] {LEAST, -1, 8, 40, MOST}) {
            int[] abc = {0, 0, 0};
            abc[which] = place;
            Checks.dueThrow(what + place, Checks.INDEX, () -> x.op(kind, abc[0], abc[1], abc[2]));
        }
        for (int place = 0; place < 8; place++) {
            int[] abc = {0, 0, 0};
            abc[which] = place;
            Checks.due(what + place, x.op(kind, abc[0], abc[1], abc[2]), place);
        }
    }

    /** "Numbers that a KIND does not name are not looked at." */
    private static void numbersNotLookedAt() {
        WholeSpans x = new WholeSpans();
        int number = 0;
        for (int any : new int[] {LEAST, -1, 8, 41, MOST}) {
            Checks.due("c of kind 0", x.op(0, 0, 0, any), number++);
            Checks.due("c of kind 1", x.op(1, 0, 0, any), number++);
            Checks.due("b of kind 18", x.op(18, 0, any, 0), number++);
            Checks.due("c of kind 18", x.op(18, 0, 0, any), number++);
            Checks.due("a of kind 19", x.op(19, any, 0, 0), number++);
            Checks.due("b of kind 19", x.op(19, 0, any, 0), number++);
            Checks.due("c of kind 19", x.op(19, 0, 0, any), number++);
        }
        x.run();
        Checks.due("heads: 0 alone", x.told(4), 1);
    }

    /** "c 0 .. MOST" of 5, "(0 .. 31)" of 6, 0, 1, 2 of 9, "(b at most c)" of 10. */
    private static void numbersAtBothEnds() {
        int[][] fine = {
            {5, 0, 0, 0}, {5, 0, 0, MOST}, {6, 0, 0, 0}, {6, 0, 0, 31}, {9, 0, 0, 0}, {9, 0, 0, 1}, {9, 0, 0, 2},
            {10, 0, 0, 0}, {10, 0, LEAST, LEAST}, {10, 0, MOST, MOST}, {10, 0, LEAST, MOST}, {10, 0, -1, 0},
            {0, 0, LEAST, 0}, {0, 0, MOST, 0},
        };
        int[][] wrong = {
            {5, 0, 0, -1}, {5, 0, 0, LEAST}, {6, 0, 0, -1}, {6, 0, 0, 32}, {6, 0, 0, MOST}, {6, 0, 0, LEAST},
            {9, 0, 0, -1}, {9, 0, 0, 3}, {9, 0, 0, LEAST}, {9, 0, 0, MOST},
            {10, 0, 1, 0}, {10, 0, MOST, LEAST}, {10, 0, 0, -1}, {10, 0, MOST, 2147483646},
        };
        WholeSpans x = new WholeSpans();
        for (int i = 0; i < fine.length; i++) {
            int[] s = fine[i];
            Checks.due("kind " + s[0] + " with " + s[2] + ", " + s[3], x.op(s[0], s[1], s[2], s[3]), i);
        }
        for (int[] s : wrong) {
            String what = "kind " + s[0] + " with " + s[2] + ", " + s[3];
            Checks.dueThrow(what, Checks.ARGUMENT, () -> x.op(s[0], s[1], s[2], s[3]));
        }
        Checks.due("size", x.size(), fine.length);
    }

    /** "the next STATEMENT is not 0 .. 40": it need not be there yet, or ever. */
    private static void nextAtBothEnds() {
        for (int kind = 11; kind <= 18; kind++) {
            WholeSpans x = new WholeSpans();
            int one = kind;
            int number = 0;
            for (int next : new int[] {0, 1, 7, 8, 39, 40}) {
                int a = kind == 18 ? next : 7;
                Checks.due("kind " + kind + " to " + next, x.op(kind, a, 0, kind == 18 ? -9 : next), number++);
            }
            for (int next : new int[] {LEAST, -1, 41, MOST}) {
                int a = kind == 18 ? next : 7;
                int c = kind == 18 ? 0 : next;
                Checks.dueThrow("kind " + kind + " to " + next, Checks.ARGUMENT, () -> x.op(one, a, 0, c));
            }
        }
    }

    /** "A PLACE begins with low .. high: how many numbers these are": they may be more than MOST. */
    private static void howManyNumbers() {
        WholeSpans x = new WholeSpans();
        Checks.due("one", x.begin(0, 0, 0), 1);
        Checks.due("LEAST alone", x.begin(0, LEAST, LEAST), 1);
        Checks.due("MOST alone", x.begin(7, MOST, MOST), 1);
        Checks.due("two", x.begin(0, -1, 0), 2);
        Checks.due("from 0 to MOST", x.begin(0, 0, MOST), 2147483648L);
        Checks.due("from LEAST to -1", x.begin(0, LEAST, -1), 2147483648L);
        Checks.due("all but one", x.begin(0, LEAST, 2147483646), 4294967295L);
        Checks.due("all", x.begin(7, LEAST, MOST), 4294967296L);
    }

    /** What is told last is what a PLACE begins with, and that of no other PLACE. */
    private static void beginAnew() {
        WholeSpans x = new WholeSpans();
        x.begin(3, LEAST, MOST);
        x.begin(3, 4, 5);
        x.begin(4, 6, 6);
        Scenes.stop(x);
        x.run();
        x.begin(4, -6, -6);
        x.run();
        Scenes.dueSet("begin anew", x, 0, 3, "4..5");
        Scenes.dueSet("begin anew", x, 0, 4, "-6..-6");
        Scenes.dueSet("begin anew", x, 0, 2, "0..0");
        Scenes.dueSet("begin anew", x, 0, 5, "0..0");
    }

    /** "the program was changed since run()": by op, by begin and by clear, and run() mends it each time. */
    private static void changedSinceRun() {
        WholeSpans x = new WholeSpans();
        Checks.dueThrow("never run", Checks.STATE, () -> x.told(0));
        x.run();
        Checks.due("run", x.told(2), 0);
        Scenes.stop(x);
        Checks.dueThrow("behind op", Checks.STATE, () -> x.told(0));
        x.run();
        Checks.due("run behind op", x.told(2), 1);
        x.begin(0, 1, 1);
        Checks.dueThrow("behind begin", Checks.STATE, () -> x.told(0));
        x.run();
        Checks.due("run behind begin", x.told(2), 1);
        x.clear();
        Checks.dueThrow("behind clear", Checks.STATE, () -> x.told(0));
        x.run();
        Checks.due("run behind clear", x.told(2), 0);
    }

    private static void readingIsNoChange() {
        WholeSpans x = new WholeSpans();
        x.begin(0, 0, 1);
        x.op(7, 1, 1, 0);
        Scenes.stop(x);
        x.run();
        for (int i = 0; i < 2; i++) {
            Checks.due("size", x.size(), 2);
            Checks.due("threshold", x.threshold(1), MOST);
            Checks.due("holds", x.holds(1, 1), 1);
            Checks.due("ways", x.ways(0), 5);
            Checks.due("reached", x.reached(1) ? 1 : 0, 1);
            Scenes.dueSet("SET", x, 1, 0, "0..1");
            Checks.due("told", x.told(0), 2);
        }
    }

    /** "Whether a STATEMENT is REACHED": the first always is, one behind 19 or 18 is not by that. */
    private static void reachedOrNot() {
        WholeSpans x = new WholeSpans();
        x.op(18, 2, 0, 0);
        Scenes.idle(x);
        Scenes.stop(x);
        Scenes.idle(x);
        x.run();
        int[] reached = {1, 0, 1, 0};
        for (int at = 0; at < 4; at++) {
            Checks.due("reached(" + at + ")", x.reached(at) ? 1 : 0, reached[at]);
        }
    }

    /** "How many SPANS a PLACE has ahead of a STATEMENT; 0: it is not REACHED." */
    private static void piecesNoneOneTwo() {
        WholeSpans x = new WholeSpans();
        x.begin(0, 127, 128);
        x.op(9, 7, 0, 0);
        Scenes.stop(x);
        Scenes.stop(x);
        x.run();
        // Ahead of 0 PLACE 7 is what it begins with; what 0 makes is there ahead of 1.
        Checks.due("pieces(0, 7)", x.pieces(0, 7), 1);
        Checks.due("pieces(1, 7)", x.pieces(1, 7), 2);
        Checks.due("pieces(1, 0)", x.pieces(1, 0), 1);
        for (int place = 0; place < 8; place++) {
            Checks.due("pieces(2, " + place + ")", x.pieces(2, place), 0);
        }
    }

    /** "An end of SPAN k: the least (high = false), the greatest number"; "it has no such SPAN". */
    private static void endsOfSpans() {
        WholeSpans x = new WholeSpans();
        x.begin(0, 120, 130);
        x.op(9, 7, 0, 0);
        Scenes.stop(x);
        Scenes.stop(x);
        x.run();
        Checks.due("least of the first", x.end(1, 7, 0, false), -128);
        Checks.due("greatest of the first", x.end(1, 7, 0, true), -126);
        Checks.due("least of the second", x.end(1, 7, 1, false), 120);
        Checks.due("greatest of the second", x.end(1, 7, 1, true), 127);
        for (int k : new int[] {LEAST, -1, 2, MOST}) {
            Checks.dueThrow("of two, SPAN " + k, Checks.INDEX, () -> x.end(1, 7, k, false));
        }
        for (int k : new int[] {-1, 1, 2}) {
            Checks.dueThrow("of one, SPAN " + k, Checks.INDEX, () -> x.end(1, 0, k, true));
        }
        for (int k : new int[] {-1, 0, 1}) {
            Checks.dueThrow("where it is not REACHED, SPAN " + k, Checks.INDEX, () -> x.end(2, 7, k, false));
        }
    }

    /** "1 it throws, 2 the STATEMENT that it names .. is next, 4 the one behind it .., 8 it ends (19); added." */
    private static void waysOfEachKind() {
        int[] ways = {4, 4, 4, 4, 4, 4, 4, 1, 1, 4, 4, 4, 2, 2, 4, 2, 4, 4, 2, 8};
        for (int kind = 0; kind <= 19; kind++) {
            WholeSpans x = new WholeSpans();
            x.op(kind, 0, 1, 2);
            x.run();
            // All PLACES are 0 alone; kind 18 names 0, the conditions name 2, which is not there.
            Checks.due("ways of kind " + kind + ", 0 alone", x.ways(0), ways[kind]);
        }
        for (int kind = 7; kind <= 8; kind++) {
            dueWaysByDivisor(kind, 0, 0, 1);
            dueWaysByDivisor(kind, 0, 1, 5);
            dueWaysByDivisor(kind, -1, 0, 5);
            dueWaysByDivisor(kind, -1, 1, 5);
            dueWaysByDivisor(kind, 1, MOST, 4);
            dueWaysByDivisor(kind, LEAST, -1, 4);
        }
        for (int kind = 11; kind <= 17; kind++) {
            WholeSpans x = new WholeSpans();
            x.begin(0, 0, 3);
            x.begin(1, 1, 2);
            x.op(kind, 0, 1, 40);
            x.run();
            Checks.due("both ways of kind " + kind, x.ways(0), 6);
        }
    }

    private static void dueWaysByDivisor(int kind, int low, int high, int want) {
        WholeSpans x = new WholeSpans();
        x.begin(2, low, high);
        x.op(kind, 0, 1, 2);
        Scenes.stop(x);
        x.run();
        Checks.due("ways of kind " + kind + " by " + low + ".." + high, x.ways(0), want);
    }

    /** "Of the latest run()": each number by itself. */
    private static void toldOfTheLatest() {
        WholeSpans x = new WholeSpans();
        x.begin(1, 100, 100);
        x.begin(2, 1, 1);
        x.op(2, 0, 0, 2);
        x.op(11, 0, 1, 0);
        Scenes.stop(x);
        x.run();
        // 1, 2 and 3 come to 0, then 4, widened to MOST; MOST and 1 goes round, so that LEAST comes next.
        Checks.due("before: widened", x.told(1), 2);
        Checks.due("before: reached", x.told(2), 3);
        Checks.due("before: heads", x.told(4), 1);
        x.begin(1, 0, 0);
        Checks.due("latest: run", x.run(), 2);
        Checks.due("latest: rounds", x.told(0), 2);
        Checks.due("latest: widened", x.told(1), 0);
        Checks.due("latest: reached", x.told(2), 3);
        Checks.due("latest: narrowed", x.told(3), 0);
        Checks.due("latest: heads", x.told(4), 1);
    }

    /** "THRESHOLDS: LEAST, MOST, and ..": two are there without any STATEMENT. */
    private static void thresholdsOfNone() {
        dueThresholds("none", new WholeSpans(), LEAST, MOST);
    }

    private static void dueThresholds(String what, WholeSpans x, int... want) {
        for (int k = 0; k < want.length; k++) {
            Checks.due(what + ": threshold(" + k + ")", x.threshold(k), want[k]);
        }
        for (int k : new int[] {LEAST, -1, want.length, want.length + 1, MOST}) {
            Checks.dueThrow(what + ": threshold(" + k + ")", Checks.INDEX, () -> x.threshold(k));
        }
    }

    /** "rising, each once". */
    private static void thresholdsEachOnce() {
        WholeSpans x = new WholeSpans();
        x.op(0, 0, LEAST, 0);
        x.op(0, 0, MOST, 0);
        dueThresholds("ends told again", x, LEAST, MOST);
        x.op(10, 0, 5, 5);
        dueThresholds("b and c the same", x, LEAST, 5, MOST);
        x.op(0, 1, 5, 0);
        x.op(5, 1, 1, 5);
        dueThresholds("told by three kinds", x, LEAST, 5, MOST);
        x.op(10, 0, LEAST, MOST);
        x.op(5, 0, 0, MOST);
        dueThresholds("ends by other kinds", x, LEAST, 5, MOST);
        x.op(0, 0, 2147483646, 0);
        x.op(0, 0, -2147483647, 0);
        x.op(0, 0, 0, 0);
        dueThresholds("rising", x, LEAST, -2147483647, 0, 5, 2147483646, MOST);
    }

    /** "the numbers b of KIND 0, b and c of KIND 10, c of KIND 5 that the program has", and none else. */
    private static void thresholdsOfKinds() {
        for (int kind = 0; kind <= 19; kind++) {
            WholeSpans x = new WholeSpans();
            int a = 3;
            int b = 1;
            int c = 2;
            x.op(kind, a, b, c);
            x.begin(0, 70, 80);
            if (kind == 0) {
                dueThresholds("kind 0", x, LEAST, b, MOST);
            } else if (kind == 5) {
                dueThresholds("kind 5", x, LEAST, c, MOST);
            } else if (kind == 10) {
                dueThresholds("kind 10", x, LEAST, b, c, MOST);
            } else {
                dueThresholds("kind " + kind, x, LEAST, MOST);
            }
        }
        WholeSpans x = new WholeSpans();
        x.op(0, 0, 7, 99);
        Checks.dueThrow("refused", Checks.ARGUMENT, () -> x.op(10, 0, 9, 8));
        Checks.dueThrow("refused", Checks.INDEX, () -> x.op(0, 8, 9, 8));
        dueThresholds("refused", x, LEAST, 7, MOST);
    }

    /** 40 STATEMENTS of KIND 10 have the most: 82. */
    private static void thresholdsMost() {
        WholeSpans x = new WholeSpans();
        int[] want = new int[82];
        want[0] = LEAST;
        want[81] = MOST;
        for (int i = 0; i < 40; i++) {
            x.op(10, 0, -i - 1, i + 1);
            want[40 - i] = -i - 1;
            want[41 + i] = i + 1;
        }
        dueThresholds("most", x, want);
        Checks.dueThrow("full", Checks.UNSUPPORTED, () -> x.op(10, 0, 1000, 2000));
        dueThresholds("most, and one refused", x, want);
    }

    /** "No STATEMENTS any more, all PLACES begin with 0: how many there were." */
    private static void clearForgets() {
        WholeSpans x = new WholeSpans();
        for (int place = 0; place < 8; place++) {
            x.begin(place, place, 100);
        }
        x.op(10, 0, 5, 6);
        x.op(18, 0, 0, 0);
        x.run();
        x.holds(3, 1);
        int had = x.had(7);
        Checks.due("clear", x.clear(), 2);
        Checks.due("clear: size", x.size(), 0);
        Checks.due("clear again", x.clear(), 0);
        dueThresholds("clear", x, LEAST, MOST);
        Checks.dueThrow("clear: told", Checks.STATE, () -> x.told(0));
        Checks.dueThrow("clear: reached", Checks.INDEX, () -> x.reached(0));
        // Of the latest holds() nothing is said there: it stays the latest.
        Checks.due("clear: ended", x.ended(), 2);
        Checks.due("clear: had", x.had(7), had);
        Checks.due("clear: the first number", Scenes.stop(x), 0);
        x.run();
        for (int place = 0; place < 8; place++) {
            Scenes.dueSet("clear", x, 0, place, "0..0");
        }
        Checks.due("clear: heads", x.told(4), 0);
    }

    /** Full and cleared, it takes 40 STATEMENTS again. */
    private static void clearOfFull() {
        WholeSpans x = new WholeSpans();
        for (int times = 0; times < 3; times++) {
            for (int i = 0; i < 40; i++) {
                Checks.due("op", x.op(0, 0, i, 0), i);
            }
            Checks.dueThrow("full", Checks.UNSUPPORTED, () -> x.op(0, 0, 0, 0));
            Checks.due("clear of full", x.clear(), 40);
        }
    }

    /** "How many STATEMENTS there are." */
    private static void sizeCounts() {
        WholeSpans x = new WholeSpans();
        for (int i = 0; i < 40; i++) {
            Checks.due("size", x.size(), i);
            Scenes.idle(x);
        }
        Checks.due("size of full", x.size(), 40);
        Checks.dueThrow("one more", Checks.UNSUPPORTED, () -> Scenes.idle(x));
        Checks.due("size of full, and one refused", x.size(), 40);
    }
}
