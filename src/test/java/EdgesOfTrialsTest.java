/** The edges that promises 11 (holds), 12 (had) and 13 (ended) name; one sentence a method. */
public final class EdgesOfTrialsTest {
    private static final int LEAST = Scenes.LEAST;
    private static final int MOST = Scenes.MOST;

    // LINK behind seed 1: the seed itself is never used, the first number comes by LINK[0].
    private static final int[] LINK = {
        48271, 182605794, 1291394886, 1914720637, 2078669041, 407355683, 1105902161, 854716505, 564586691, 1596680831,
        192302371, 1203428207,
    };

    private EdgesOfTrialsTest() {
    }

    public static void main(String[] args) {
        stepsAtBothEnds();
        seedsAtBothEnds();
        placesTakeLinksInOrder();
        oneNumberTakesALinkToo();
        numbersOfAllSpans();
        statementsTakeLinks();
        otherKindsTakeNoLink();
        countsOneThatThrows();
        actsGoRound();
        conditionsAtTheirEdges();
        noSuchStatementEndsIt();
        behindTheLastEndsIt();
        endedBy();
        nIsJustEnough();
        noneYet();
        theLatestCounts();
        refusedOnesDoNotCount();
        everyRunStaysWithin();
        Checks.finish("EdgesOfTrialsTest");
    }

    private static void dueRun(String what, WholeSpans x, int n, int done, int ended) {
        Checks.due(what + ": holds(" + n + ")", x.holds(n, 1), done);
        Checks.due(what + ": ended", x.ended(), ended);
    }

    /** "at most n STATEMENTS (0 .. 5000)". */
    private static void stepsAtBothEnds() {
        WholeSpans x = new WholeSpans();
        x.begin(1, 1, 1);
        x.op(2, 0, 0, 1);
        x.op(18, 0, 0, 0);
        x.run();
        dueRun("loop", x, 0, 0, 2);
        Checks.due("none done", x.had(0), 0);
        dueRun("loop", x, 1, 1, 2);
        Checks.due("one done", x.had(0), 1);
        dueRun("loop", x, 2, 2, 2);
        Checks.due("two done", x.had(0), 1);
        dueRun("loop", x, 4999, 4999, 2);
        Checks.due("4999 done", x.had(0), 2500);
        dueRun("loop", x, 5000, 5000, 2);
        Checks.due("5000 done", x.had(0), 2500);
        for (int n : new int[] {LEAST, -1, 5001, MOST}) {
            Checks.dueThrow("holds of n " + n, Checks.ARGUMENT, () -> x.holds(n, 1));
        }
    }

    /** "LINK, which is the seed at first (1 .. 2147483646): LINK becomes LINK * 48271 modulo 2147483647". */
    private static void seedsAtBothEnds() {
        WholeSpans x = new WholeSpans();
        x.begin(0, 0, MOST);
        x.begin(1, 0, MOST);
        Scenes.stop(x);
        x.run();
        x.holds(1, 1);
        Checks.due("seed 1: first", x.had(0), 48271);
        Checks.due("seed 1: second", x.had(1), 182605794);
        x.holds(1, 2147483646);
        // It is -1 modulo 2147483647, so its LINKS are those of 1, taken from 2147483647.
        Checks.due("greatest seed: first", x.had(0), 2147435376);
        Checks.due("greatest seed: second", x.had(1), 1964877853);
        for (int seed : new int[] {LEAST, -1, 0, MOST}) {
            Checks.dueThrow("holds of seed " + seed, Checks.ARGUMENT, () -> x.holds(1, seed));
        }
    }

    /** "(first those of PLACES 0 to 7 ..)". */
    private static void placesTakeLinksInOrder() {
        WholeSpans x = new WholeSpans();
        // Told the other way round: that is not the order.
        for (int place = 7; place >= 0; place--) {
            x.begin(place, 0, MOST);
        }
        Scenes.stop(x);
        x.run();
        x.holds(0, 1);
        for (int place = 0; place < 8; place++) {
            Checks.due("PLACE " + place, x.had(place), LINK[place]);
        }
    }

    /** "(.. also if there is but one)": the LINK goes on, the number is the one. */
    private static void oneNumberTakesALinkToo() {
        WholeSpans x = new WholeSpans();
        x.begin(3, 17, 17);
        x.begin(7, 0, MOST);
        x.op(10, 0, -5, -5);
        x.op(10, 1, 0, MOST);
        x.run();
        dueRun("but one", x, 9, 2, 0);
        Checks.due("PLACE 3", x.had(3), 17);
        Checks.due("PLACE 7", x.had(7), LINK[7]);
        Checks.due("STATEMENT 0", x.had(0), -5);
        Checks.due("STATEMENT 1", x.had(1), LINK[9]);
    }

    /** "the number is l and LINK modulo how many there are": 2, 10, 2147483647, 2147483648, 4294967295, 4294967296. */
    private static void numbersOfAllSpans() {
        WholeSpans x = new WholeSpans();
        x.begin(0, -1, 0);
        x.begin(1, -20, -11);
        x.begin(2, 1, MOST);
        x.begin(3, LEAST, -1);
        x.begin(4, LEAST, 2147483646);
        x.begin(5, LEAST, MOST);
        x.begin(6, LEAST, LEAST);
        x.begin(7, 2147483646, MOST);
        Scenes.stop(x);
        x.run();
        x.holds(1, 1);
        Checks.due("48271 modulo 2", x.had(0), 0);
        Checks.due("182605794 modulo 10", x.had(1), -16);
        Checks.due("of MOST", x.had(2), 1 + LINK[2]);
        Checks.due("below 0", x.had(3), LEAST + LINK[3]);
        Checks.due("all but one", x.had(4), LEAST + LINK[4]);
        Checks.due("all", x.had(5), LEAST + LINK[5]);
        Checks.due("LEAST alone", x.had(6), LEAST);
        Checks.due("854716505 modulo 2", x.had(7), MOST);
    }

    /** A STATEMENT of KIND 10 takes the next LINK each time that it is done. */
    private static void statementsTakeLinks() {
        WholeSpans x = new WholeSpans();
        x.op(10, 0, 0, MOST);
        x.op(18, 0, 0, 0);
        x.run();
        for (int times = 1; times <= 4; times++) {
            x.holds(2 * times, 1);
            Checks.due("STATEMENT 0, " + times + " times", x.had(0), LINK[7 + times]);
        }
    }

    private static void otherKindsTakeNoLink() {
        WholeSpans x = new WholeSpans();
        x.begin(2, 1, 1);
        for (int kind = 0; kind <= 9; kind++) {
            // By PLACE 2 nothing throws; to kinds 5, 6 and 9 it is a number that is fine.
            x.op(kind, 0, 1, 2);
        }
        for (int kind = 11; kind <= 17; kind++) {
            x.op(kind, 0, 0, x.size() + 1);
        }
        x.op(18, x.size() + 1, 0, 0);
        x.op(10, 0, 0, MOST);
        x.run();
        dueRun("other kinds", x, 100, 19, 0);
        Checks.due("the ninth LINK", x.had(0), LINK[8]);
    }

    /** "how many STATEMENTS were done (one that throws, too)": its PLACE a stays as it is. */
    private static void countsOneThatThrows() {
        for (int kind = 7; kind <= 8; kind++) {
            WholeSpans x = new WholeSpans();
            x.begin(0, 5, 5);
            Scenes.idle(x);
            x.op(kind, 0, 0, 1);
            x.op(0, 0, 99, 0);
            x.run();
            dueRun("throws", x, 9, 2, 1);
            Checks.due("throws: had", x.had(0), 5);
            dueRun("throws as the last of n", x, 2, 2, 1);
            dueRun("throws not yet", x, 1, 1, 2);
        }
    }

    /** "Acts go round in 32 bits"; LEAST / -1 is LEAST, and its rest 0. */
    private static void actsGoRound() {
        dueAct(2, MOST, 1, LEAST);
        dueAct(2, LEAST, -1, MOST);
        dueAct(2, LEAST, LEAST, 0);
        dueAct(3, LEAST, 1, MOST);
        dueAct(3, MOST, -1, LEAST);
        dueAct(3, 0, LEAST, LEAST);
        dueAct(4, LEAST, -1, LEAST);
        dueAct(4, LEAST, LEAST, 0);
        dueAct(4, MOST, MOST, 1);
        dueAct(4, 65536, 65536, 0);
        dueAct(7, LEAST, -1, LEAST);
        dueAct(7, LEAST, 1, LEAST);
        dueAct(7, LEAST, MOST, -1);
        dueAct(7, MOST, LEAST, 0);
        dueAct(7, -7, 2, -3);
        dueAct(7, 7, -2, -3);
        dueAct(8, LEAST, -1, 0);
        dueAct(8, LEAST, MOST, -1);
        dueAct(8, MOST, LEAST, MOST);
        dueAct(8, -7, 2, -1);
        dueAct(8, 7, -2, 1);
    }

    private static void dueAct(int kind, int b, int c, int want) {
        WholeSpans x = new WholeSpans();
        x.begin(0, b, b);
        x.begin(1, c, c);
        x.op(kind, 2, 0, 1);
        x.run();
        String what = "kind " + kind + " of " + b + " and " + c;
        dueRun(what, x, 9, 1, 0);
        Checks.due(what, x.had(2), want);
        Checks.due(what + ": b", x.had(0), b);
        Checks.due(what + ": c", x.had(1), c);
    }

    /** "if a and b are so, STATEMENT c is next": the same number, the next one, both ends, without sign too. */
    private static void conditionsAtTheirEdges() {
        dueConditions(5, 5, "0110100");
        dueConditions(4, 5, "1101001");
        dueConditions(5, 4, "0001110");
        dueConditions(-1, 0, "1101000");
        dueConditions(0, -1, "0001111");
        dueConditions(LEAST, MOST, "1101000");
        dueConditions(MOST, LEAST, "0001111");
        dueConditions(LEAST, LEAST, "0110100");
        dueConditions(MOST, MOST, "0110100");
        dueConditions(LEAST, -1, "1101001");
        dueConditions(-1, LEAST, "0001110");
        dueConditions(-2, -1, "1101001");
        dueConditions(0, MOST, "1101001");
    }

    /** Of the relations 0 to 6, 1 stands for those that are so. */
    private static void dueConditions(int a, int b, String so) {
        for (int r = 0; r < 7; r++) {
            WholeSpans x = new WholeSpans();
            x.begin(0, a, a);
            x.begin(1, b, b);
            x.op(11 + r, 0, 1, 2);
            x.op(0, 2, 1, 0);
            x.run();
            String what = "condition " + r + " of " + a + " and " + b;
            boolean isSo = so.charAt(r) == '1';
            dueRun(what, x, 9, isSo ? 1 : 2, 0);
            Checks.due(what, x.had(2), isSo ? 0 : 1);
        }
    }

    /** "as at a STATEMENT that is not there": named by 11 to 18, just behind the last one or far. */
    private static void noSuchStatementEndsIt() {
        for (int kind = 12; kind <= 18; kind += 6) {
            for (int named : new int[] {2, 3, 39, 40}) {
                WholeSpans x = new WholeSpans();
                x.op(kind, kind == 18 ? named : 0, 0, kind == 18 ? 0 : named);
                x.op(0, 0, 99, 0);
                x.run();
                dueRun("kind " + kind + " to " + named, x, 9, 1, 0);
                Checks.due("kind " + kind + " to " + named + ": had", x.had(0), 0);
            }
        }
    }

    /** "behind the last one it ends": also with no STATEMENTS, and with 40. */
    private static void behindTheLastEndsIt() {
        WholeSpans x = new WholeSpans();
        x.begin(7, -4, -4);
        x.run();
        dueRun("no STATEMENTS", x, 9, 0, 0);
        Checks.due("no STATEMENTS: had", x.had(7), -4);
        for (int i = 0; i < 40; i++) {
            Scenes.idle(x);
        }
        x.run();
        dueRun("40 STATEMENTS", x, 5000, 40, 0);
        dueRun("39 of 40 STATEMENTS", x, 39, 39, 2);
    }

    /** "0 by 19, or behind the last STATEMENT, 1 it threw, 2 n STATEMENTS were done". */
    private static void endedBy() {
        WholeSpans x = new WholeSpans();
        Scenes.stop(x);
        Scenes.idle(x);
        x.run();
        dueRun("by 19", x, 9, 1, 0);
        x.clear();
        Scenes.idle(x);
        Scenes.idle(x);
        x.run();
        dueRun("behind the last", x, 9, 2, 0);
        dueRun("n done", x, 1, 1, 2);
        x.clear();
        x.op(7, 0, 0, 0);
        x.run();
        dueRun("threw", x, 9, 1, 1);
    }

    /** Where the program ends with just the n-th STATEMENT, it has ended by itself; with n = 0 it has not begun. */
    private static void nIsJustEnough() {
        WholeSpans x = new WholeSpans();
        Scenes.idle(x);
        Scenes.stop(x);
        x.run();
        dueRun("19 is the n-th", x, 2, 2, 0);
        dueRun("19 would be the next", x, 1, 1, 2);
        dueRun("none", x, 0, 0, 2);
        x.clear();
        Scenes.idle(x);
        Scenes.idle(x);
        x.run();
        dueRun("the last is the n-th", x, 2, 2, 0);
    }

    /** "-1: there was none", and had: "also if there was none". */
    private static void noneYet() {
        WholeSpans x = new WholeSpans();
        x.begin(0, 5, 5);
        Scenes.stop(x);
        x.run();
        Checks.due("none yet: ended", x.ended(), -1);
        for (int place = -1; place <= 8; place++) {
            int one = place;
            Checks.dueThrow("none yet: had(" + place + ")", Checks.INDEX, () -> x.had(one));
        }
        x.holds(0, 1);
        Checks.due("one of n = 0: ended", x.ended(), 2);
        Checks.due("one of n = 0: had(0)", x.had(0), 5);
        Checks.due("one of n = 0: had(7)", x.had(7), 0);
        Checks.dueThrow("had(-1)", Checks.INDEX, () -> x.had(-1));
        Checks.dueThrow("had(8)", Checks.INDEX, () -> x.had(8));
    }

    /** "What a PLACE had at the end of the latest holds()": behind op, begin, clear and run it is still the latest. */
    private static void theLatestCounts() {
        WholeSpans x = new WholeSpans();
        x.begin(0, 5, 5);
        x.op(7, 1, 0, 2);
        x.run();
        dueRun("first", x, 9, 1, 1);
        x.begin(0, 6, 6);
        Checks.due("behind begin", x.had(0), 5);
        x.op(0, 0, 7, 0);
        Checks.due("behind op", x.had(0), 5);
        x.run();
        Checks.due("behind run", x.had(0), 5);
        x.clear();
        Checks.due("behind clear", x.had(0), 5);
        Checks.due("behind clear: ended", x.ended(), 1);
        x.op(0, 0, 8, 0);
        x.run();
        dueRun("latest", x, 9, 1, 0);
        Checks.due("latest: had", x.had(0), 8);
    }

    /** "A call that throws changes nothing": the latest is the one that was not refused. */
    private static void refusedOnesDoNotCount() {
        WholeSpans x = new WholeSpans();
        x.begin(0, 0, MOST);
        x.op(7, 1, 0, 2);
        Checks.dueThrow("not run", Checks.STATE, () -> x.holds(9, 1));
        Checks.due("not run: ended", x.ended(), -1);
        x.run();
        dueRun("fine", x, 9, 1, 1);
        Checks.dueThrow("n", Checks.ARGUMENT, () -> x.holds(5001, 2));
        Checks.dueThrow("seed", Checks.ARGUMENT, () -> x.holds(0, 0));
        Checks.due("refused: ended", x.ended(), 1);
        Checks.due("refused: had", x.had(0), LINK[0]);
    }

    /** "3 a PLACE did not lie in its SET (it never does)": by acts that go round, at their edges. */
    private static void everyRunStaysWithin() {
        int[][] ends = {{LEAST, MOST}, {LEAST, LEAST + 3}, {MOST - 3, MOST}, {-2, 2}, {0, 1}, {-1, 0}, {LEAST, 0}};
        for (int[] b : ends) {
            for (int[] c : ends) {
                for (int kind = 2; kind <= 17; kind++) {
                    staysWithin(kind, b, c);
                }
            }
        }
    }

    private static void staysWithin(int kind, int[] b, int[] c) {
        WholeSpans x = new WholeSpans();
        x.begin(0, b[0], b[1]);
        x.begin(1, c[0], c[1]);
        boolean number = kind == 5 || kind == 6 || kind == 9;
        x.op(kind, kind > 10 ? 0 : 2, kind > 10 ? 1 : 0, kind > 10 ? 3 : number ? 2 : 1);
        x.op(3, 3, 0, 1);
        x.op(2, 3, 3, 2);
        Scenes.stop(x);
        x.run();
        for (int seed = 1; seed <= 20; seed++) {
            x.holds(9, seed);
            boolean fine = x.ended() == 0 || x.ended() == 1 && kind >= 7 && kind <= 8;
            Checks.due("kind " + kind + " by seed " + seed + " ended by " + x.ended() + "; that is fine", fine ? 1 : 0, 1);
        }
    }
}
