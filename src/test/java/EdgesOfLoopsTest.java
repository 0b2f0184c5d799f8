/** The edges that the document's section 4 names: FACTS, HEADS, ROUNDS, WIDENED, NARROWED; one sentence a method. */
public final class EdgesOfLoopsTest {
    private static final int LEAST = Scenes.LEAST;
    private static final int MOST = Scenes.MOST;

    private EdgesOfLoopsTest() {
    }

    public static void main(String[] args) {
        beginsWithZeroAlone();
        beginsWithWhatIsTold();
        roundsOfFewStatements();
        givenCountsAtOnce();
        roundsGoUpwards();
        roundThatChangesOneAlone();
        givenIsNotLost();
        namedOneFirst();
        firstSetsFirst();
        headAtOrBehind();
        fourthTimeOrOftener();
        reachedBeforeIsNoChange();
        noHeadIsNotWidened();
        thresholdNotBelow();
        thresholdNotAbove();
        otherEndStays();
        becomesOneSpan();
        onlyWhatChangesIsWidened();
        narrowedTwice();
        narrowedToCommon();
        nothingInCommon();
        notReachedAnyMore();
        narrowedWithTheFirstSets();
        runAgain();
        Checks.finish("EdgesOfLoopsTest");
    }

    private static void dueTold(String what, WholeSpans x, int rounds, int widened, int reached, int narrowed) {
        Checks.due(what + ": run", x.run(), rounds);
        Checks.due(what + ": rounds", x.told(0), rounds);
        Checks.due(what + ": widened", x.told(1), widened);
        Checks.due(what + ": reached", x.told(2), reached);
        Checks.due(what + ": narrowed", x.told(3), narrowed);
    }

    /** "The program begins with SETS that are told (0 alone at first) at STATEMENT 0". */
    private static void beginsWithZeroAlone() {
        WholeSpans x = new WholeSpans();
        Scenes.stop(x);
        x.run();
        for (int place = 0; place < 8; place++) {
            Scenes.dueSet("at first", x, 0, place, "0..0");
        }
    }

    private static void beginsWithWhatIsTold() {
        WholeSpans x = new WholeSpans();
        x.begin(0, LEAST, LEAST);
        x.begin(7, MOST, MOST);
        x.begin(3, LEAST, MOST);
        Scenes.stop(x);
        x.run();
        Scenes.dueSet("told", x, 0, 0, "LEAST..LEAST");
        Scenes.dueSet("told", x, 0, 7, "MOST..MOST");
        Scenes.dueSet("told", x, 0, 3, "LEAST..MOST");
        Scenes.dueSet("not told", x, 0, 1, "0..0");
    }

    /** "ROUNDS go on until one changes nothing": that one counts, also if it is the first. */
    private static void roundsOfFewStatements() {
        WholeSpans x = new WholeSpans();
        dueTold("none", x, 1, 0, 0, 0);
        Scenes.idle(x);
        dueTold("one", x, 1, 0, 1, 0);
        Scenes.stop(x);
        dueTold("two", x, 2, 0, 2, 0);
        Scenes.stop(x);
        dueTold("one behind the end", x, 2, 0, 2, 0);
        x.clear();
        x.op(18, 0, 0, 0);
        dueTold("one that is next to itself", x, 1, 0, 1, 0);
        x.clear();
        x.op(18, 1, 0, 0);
        dueTold("to one that is not there", x, 1, 0, 1, 0);
    }

    /** "what is given counts at once": 40 STATEMENTS are REACHED in one ROUND. */
    private static void givenCountsAtOnce() {
        WholeSpans x = new WholeSpans();
        for (int i = 0; i < 40; i++) {
            Scenes.idle(x);
        }
        dueTold("40 upwards", x, 2, 0, 40, 0);
    }

    /** "STATEMENT by STATEMENT, from 0 on": downwards, each one waits for the next ROUND. */
    private static void roundsGoUpwards() {
        WholeSpans x = new WholeSpans();
        x.op(18, 39, 0, 0);
        Scenes.stop(x);
        for (int i = 2; i < 40; i++) {
            x.op(18, i - 1, 0, 0);
        }
        dueTold("40 downwards", x, 39, 0, 40, 0);
        Checks.due("40 downwards: heads", x.told(4), 38);
    }

    /** "until one changes nothing": a ROUND in which the named one alone changes is not the last one. */
    private static void roundThatChangesOneAlone() {
        WholeSpans x = new WholeSpans();
        x.begin(0, 0, 1);
        x.op(18, 3, 0, 0);
        Scenes.stop(x);
        x.op(13, 0, 1, 1);
        x.op(18, 2, 0, 0);
        // 3 and 2 are REACHED in the first ROUND, 1 in the second; 3 has all that 2 gives it.
        dueTold("the named one alone", x, 3, 0, 4, 0);
    }

    /** What changed a STATEMENT is given on in the next ROUND, though what came behind it changed nothing. */
    private static void givenIsNotLost() {
        WholeSpans x = constantsBack(0, 10, 10, 0);
        dueTold("given on", x, 3, 0, 13, 0);
        Scenes.dueSet("given on", x, 0, 0, "0..0 10..10");
        Scenes.dueSet("given on", x, 12, 0, "0..0 10..10");
    }

    /** "(to c, or a, first, then to the one behind it)", and in NARROWING "of one STATEMENT that gives twice c first". */
    private static void namedOneFirst() {
        WholeSpans x = new WholeSpans();
        Scenes.tellSet(x, 0, "0..0 100..100");
        Scenes.either(x, 14);
        Scenes.tellSet(x, 0, "49..49 52..52");
        x.op(0, 1, 50, 0);
        x.op(11, 0, 1, 14);
        // 49 comes first, and makes 0..49; were 52 the first one, it would make 52..100.
        int at = Scenes.stop(x);
        dueTold("c first", x, 2, 0, 15, 0);
        Scenes.dueSet("c first", x, at, 0, "0..52 100..100");
    }

    /** "(in the order of STATEMENTS; the first SETS first ..)". */
    private static void firstSetsFirst() {
        WholeSpans x = constantsBack(0, 100, 49, 52);
        dueTold("first SETS first", x, 3, 0, 13, 0);
        // 0 and 100 first: 49 makes 0..49. Were 0 the last, 49..52 would have become one with 100.
        Scenes.dueSet("first SETS first", x, 0, 0, "0..52 100..100");
    }

    /** From a HEAD on, each of these numbers is given back to it by a STATEMENT of its own, one behind the other. */
    private static WholeSpans constantsBack(int head, int... numbers) {
        WholeSpans x = new WholeSpans();
        for (int i = 0; i < head; i++) {
            Scenes.idle(x);
        }
        for (int number : numbers) {
            Scenes.either(x, x.size() + 4);
            x.op(0, 0, number, 0);
            x.op(18, head, 0, 0);
        }
        Scenes.stop(x);
        return x;
    }

    /** "A HEAD is a STATEMENT that 11 to 18 name as next, at that STATEMENT or behind it". */
    private static void headAtOrBehind() {
        for (int kind = 11; kind <= 18; kind++) {
            dueHeads(kind, 1, 1);
            dueHeads(kind, 0, 1);
            dueHeads(kind, 2, 0);
            dueHeads(kind, 3, 0);
            dueHeads(kind, 40, 0);
        }
        // Numbers that are no next STATEMENTS make no HEADS.
        for (int kind = 0; kind <= 10; kind++) {
            WholeSpans x = new WholeSpans();
            x.op(kind, 0, 0, 0);
            x.run();
            Checks.due("heads by kind " + kind, x.told(4), 0);
        }
        WholeSpans x = new WholeSpans();
        x.op(19, 0, 0, 0);
        x.op(18, 0, 1, 1);
        x.op(11, 0, 0, 0);
        x.run();
        Checks.due("a HEAD that two name is one", x.told(4), 1);
    }

    private static void dueHeads(int kind, int named, int want) {
        WholeSpans x = new WholeSpans();
        Scenes.stop(x);
        x.op(kind, kind == 18 ? named : 0, 0, kind == 18 ? 0 : named);
        Scenes.stop(x);
        x.run();
        Checks.due("heads by kind " + kind + " that names " + named, x.told(4), want);
    }

    /** "changes by that for the fourth time or oftener (all ROUNDS counted, each giving by itself)". */
    private static void fourthTimeOrOftener() {
        Checks.due("changes once", widenedBy(0, 10), 0);
        Checks.due("changes twice", widenedBy(0, 10, 20), 0);
        Checks.due("changes three times", widenedBy(0, 10, 20, 30), 0);
        Checks.due("changes four times", widenedBy(0, 10, 20, 30, 40), 1);
        Checks.due("changes five times", widenedBy(0, 10, 20, 30, 40, 50), 2);
        Checks.due("changes six times", widenedBy(0, 10, 20, 30, 40, 50, 60), 3);
        // What is given and changes nothing does not count.
        Checks.due("changes three times, given more", widenedBy(0, 10, 10, 20, 0, 30, 20), 0);
        // 0..10 and 20 are there: 5 lies within.
        Checks.due("changes three times, given one within", widenedBy(0, 10, 20, 5, 30), 0);
        // Over ROUNDS: 1, 2, 3 come by one ROUND each, and 4 by the fourth.
        Checks.due("counting to 3", counting(1, 3).told(1), 0);
        Checks.due("counting to 4", counting(1, 4).told(1), 1);
    }

    private static int widenedBy(int head, int... numbers) {
        WholeSpans x = constantsBack(head, numbers);
        x.run();
        return x.told(1);
    }

    /** "At a HEAD that was REACHED before": that it is REACHED first is no change, by whichever STATEMENT. */
    private static void reachedBeforeIsNoChange() {
        Checks.due("HEAD 1, three times", widenedBy(1, 10, 20, 30), 0);
        Checks.due("HEAD 1, four times", widenedBy(1, 10, 20, 30, 40), 1);
        WholeSpans x = new WholeSpans();
        // 3 is REACHED first by its own loop's end, then it changes three times.
        x.op(18, 4, 0, 0);
        Scenes.stop(x);
        Scenes.stop(x);
        Scenes.stop(x);
        for (int number = 10; number <= 40; number += 10) {
            Scenes.either(x, x.size() + 4);
            x.op(0, 0, number, 0);
            x.op(18, 3, 0, 0);
        }
        x.run();
        Checks.due("HEAD that is REACHED from behind: heads", x.told(4), 1);
        Checks.due("HEAD that is REACHED from behind: widened", x.told(1), 0);
        Scenes.dueSet("HEAD that is REACHED from behind", x, 3, 0, "10..30 40..40");
    }

    /** A STATEMENT that is no HEAD may change as often as it likes. */
    private static void noHeadIsNotWidened() {
        WholeSpans x = new WholeSpans();
        for (int i = 0; i < 9; i++) {
            x.op(0, 0, 1000 * i * i, 0);
            Scenes.either(x, 28);
        }
        Scenes.idle(x);
        int at = Scenes.stop(x);
        x.run();
        Checks.due("no HEAD: widened", x.told(1), 0);
        Scenes.dueSet("no HEAD", x, at, 0, "0..49000 64000..64000");
    }

    /** PLACE 0 goes from 0 up to 100 (or down to -100) by ones; the numbers stand behind the end, as THRESHOLDS. */
    private static WholeSpans counting(int step, int last, int... thresholds) {
        WholeSpans x = new WholeSpans();
        x.begin(1, last, last);
        x.op(0, 0, 0, 0);
        x.op(step > 0 ? 15 : 12, 0, 1, 5);
        x.op(0, 2, step, 0);
        x.op(2, 0, 0, 2);
        x.op(18, 1, 0, 0);
        Scenes.stop(x);
        for (int threshold : thresholds) {
            x.op(0, 3, threshold, 0);
        }
        x.run();
        return x;
    }

    private static void dueWidened(String what, WholeSpans x, int widened, int narrowed, String atHead) {
        Checks.due(what + ": widened", x.told(1), widened);
        Checks.due(what + ": narrowed", x.told(3), narrowed);
        Scenes.dueSet(what, x, 1, 0, atHead);
    }

    /** "or, if that became greater, the least THRESHOLD not below it": that it is itself, too. */
    private static void thresholdNotBelow() {
        // 4 is the first to be widened; 99 and 1 make 100 at 4, so that without 100 MOST is narrowed again at 1 and 5.
        dueWidened("up, 4", counting(1, 100, 4), 2, 2, "0..100");
        dueWidened("up, 5", counting(1, 100, 5), 2, 2, "0..100");
        dueWidened("up, 3", counting(1, 100, 3), 1, 2, "0..100");
        dueWidened("up, 4 to 7", counting(1, 100, 7, 5, 4, 6), 5, 2, "0..100");
        dueWidened("up, 100", counting(1, 100, 100), 1, 0, "0..100");
        dueWidened("up, 99", counting(1, 100, 99), 2, 2, "0..100");
        dueWidened("up, 101", counting(1, 100, 101), 1, 2, "0..100");
        dueWidened("up, none", counting(1, 100), 1, 2, "0..100");
        Checks.due("up, 100: rounds", counting(1, 100, 100).told(0), 6);
    }

    /** "or, if that became less, the greatest THRESHOLD that is not above it". */
    private static void thresholdNotAbove() {
        dueWidened("down, -4", counting(-1, -100, -4), 2, 2, "-100..0");
        dueWidened("down, -5", counting(-1, -100, -5), 2, 2, "-100..0");
        dueWidened("down, -3", counting(-1, -100, -3), 1, 2, "-100..0");
        dueWidened("down, -4 to -7", counting(-1, -100, -6, -4, -5, -7), 5, 2, "-100..0");
        dueWidened("down, -100", counting(-1, -100, -100), 1, 0, "-100..0");
        dueWidened("down, -99", counting(-1, -100, -99), 2, 2, "-100..0");
        dueWidened("down, -101", counting(-1, -100, -101), 1, 2, "-100..0");
        dueWidened("down, none", counting(-1, -100), 1, 2, "-100..0");
        Checks.due("down, -100: rounds", counting(-1, -100, -100).told(0), 6);
    }

    /** "from its least number": an end that did not move stays, though it is no THRESHOLD. */
    private static void otherEndStays() {
        WholeSpans x = new WholeSpans();
        x.begin(0, 7, 7);
        x.begin(1, 100, 100);
        x.begin(2, 1, 1);
        x.op(15, 0, 1, 3);
        x.op(2, 0, 0, 2);
        x.op(18, 0, 0, 0);
        Scenes.stop(x);
        x.op(0, 4, 100, 0);
        x.run();
        Checks.due("from 7: widened", x.told(1), 1);
        Checks.due("from 7: narrowed", x.told(3), 0);
        Scenes.dueSet("from 7", x, 0, 0, "7..100");
        WholeSpans y = new WholeSpans();
        y.begin(0, -7, -7);
        y.begin(1, -100, -100);
        y.begin(2, 1, 1);
        y.op(12, 0, 1, 3);
        y.op(3, 0, 0, 2);
        y.op(18, 0, 0, 0);
        Scenes.stop(y);
        y.op(0, 4, -100, 0);
        y.run();
        Checks.due("from -7: widened", y.told(1), 1);
        Checks.due("from -7: narrowed", y.told(3), 0);
        Scenes.dueSet("from -7", y, 0, 0, "-100..-7");
    }

    /** "it becomes one SPAN, from its least number .. to its greatest one": also if no end moved. */
    private static void becomesOneSpan() {
        WholeSpans x = new WholeSpans();
        x.begin(7, 0, 1);
        x.begin(3, 50, 50);
        x.begin(1, 1, 1);
        x.op(13, 7, 6, 3);
        x.op(0, 0, 100, 0);
        x.op(18, 0, 0, 0);
        x.op(15, 0, 3, 6);
        x.op(2, 0, 0, 1);
        x.op(18, 0, 0, 0);
        Scenes.stop(x);
        // The HEAD has 0 and 100, 0..1 and 100, 0..2 and 100, then 0..100, not 0..3 and 100;
        // NARROWED, it is 0..50 and 100 at 0, 1 and 3, and 50 and 100 at 6.
        dueTold("one SPAN", x, 5, 1, 7, 4);
        Scenes.dueSet("one SPAN", x, 0, 0, "0..50 100..100");
        Scenes.dueSet("one SPAN", x, 6, 0, "50..50 100..100");
    }

    /** "each PLACE whose SET changes is WIDENED": of the others none, of several each. */
    private static void onlyWhatChangesIsWidened() {
        for (int changing = 0; changing <= 2; changing++) {
            WholeSpans x = new WholeSpans();
            for (int number = 10; number <= 40; number += 10) {
                Scenes.either(x, x.size() + 6);
                x.op(0, 0, number, 0);
                x.op(0, 1, changing < 2 && number > 10 ? 0 : number, 0);
                x.op(0, 2, changing < 1 && number > 20 ? 0 : number, 0);
                x.op(18, 0, 0, 0);
            }
            x.run();
            Checks.due("widened with " + changing + " more", x.told(1), 1 + changing);
        }
    }

    /** "Then it is NARROWED twice": each time the HEAD's begin rises by one, and no third time. */
    private static void narrowedTwice() {
        WholeSpans x = new WholeSpans();
        x.begin(1, 5, 5);
        x.begin(2, 1, 1);
        x.op(0, 0, 0, 0);
        Scenes.idle(x);
        x.op(2, 0, 0, 2);
        x.op(11, 0, 1, 1);
        Scenes.stop(x);
        // Counted up to 5, but widened to MOST, it goes round, and the HEAD 1 is widened down to LEAST.
        // NARROWED once, 1 has LEAST..4 and 3 LEAST + 1..5; the second time each begins one higher.
        x.run();
        Scenes.dueSet("twice", x, 1, 0, "-2147483647..4");
        Scenes.dueSet("twice", x, 2, 0, "-2147483647..4");
        Scenes.dueSet("twice", x, 3, 0, "-2147483646..5");
        Scenes.dueSet("twice", x, 4, 0, "5..5");
    }

    /**
     * "the FACTS that all REACHED STATEMENTS give it now .. are JOINED (in the order of STATEMENTS ..); each SET
     * becomes COMMON with that". STATEMENT 15 is given 0 and 100, then one number in the first ROUND by 13, another
     * one in the second by 9: the ROUNDS and NARROWING take them the other way round.
     */
    private static void narrowedToCommon() {
        // 40 first: 0..55 and 100. 55 first: 0 and 40..100. COMMON of these are 0, 40..55, 100: the lower two are closer.
        dueTwoOrders(40, 55, "0..55 100..100", 0);
        // COMMON of 0..52 and 100 with 0 and 49..100 are 0, 49..52, 100: here the upper two are closer.
        dueTwoOrders(49, 52, "0..0 49..100", 1);
    }

    private static void dueTwoOrders(int byThirteen, int byNine, String want, int narrowed) {
        WholeSpans x = new WholeSpans();
        tellTwoOrders(x, byThirteen, byNine);
        Scenes.stop(x);
        dueTold("two orders", x, 3, 0, 16, narrowed);
        Scenes.dueSet("two orders", x, 15, 0, want);
    }

    /** Fifteen STATEMENTS; all ways lead to the one behind them. */
    private static void tellTwoOrders(WholeSpans x, int inFirstRound, int inSecondRound) {
        int from = x.size();
        int behind = from + 15;
        Scenes.tellSet(x, 0, "0..0 100..100");
        Scenes.either(x, behind);
        x.op(18, from + 10, 0, 0);
        x.op(0, 0, inSecondRound, 0);
        x.op(18, behind, 0, 0);
        Scenes.either(x, from + 14);
        x.op(0, 0, inFirstRound, 0);
        x.op(18, behind, 0, 0);
        x.op(18, from + 8, 0, 0);
    }

    /** "or a SET has nothing then, it is not REACHED any more". */
    private static void nothingInCommon() {
        WholeSpans x = new WholeSpans();
        x.begin(1, 70, 70);
        x.begin(3, 10, 10);
        x.begin(4, 20, 20);
        x.begin(5, 1, 1);
        // PLACE 2 counts to 10, but is widened to 49: more than 20 leads to 22 until it is NARROWED.
        x.op(15, 2, 3, 3);
        x.op(2, 2, 2, 5);
        x.op(18, 0, 0, 0);
        x.op(16, 2, 4, 22);
        x.op(0, 2, 0, 0);
        tellTwoOrders(x, 49, 52);
        // NARROWED, PLACE 0 has 49..100 here, and may be 70; before, it had 0..52 and 100.
        int condition = x.op(13, 0, 1, 24);
        Scenes.stop(x);
        x.op(0, 0, 60, 0);
        x.op(0, 2, 0, 0);
        // 60 alone came here; what comes now is 70 alone.
        int at = Scenes.stop(x);
        x.run();
        Checks.due("nothing in common: condition", condition, 20);
        Checks.due("nothing in common: at", at, 24);
        Scenes.dueSet("nothing in common: condition", x, condition, 0, "0..0 49..100");
        Checks.due("nothing in common: ways of the condition", x.ways(condition), 6);
        Checks.due("nothing in common: reached(22)", x.reached(22) ? 1 : 0, 0);
        Checks.due("nothing in common: reached(24)", x.reached(at) ? 1 : 0, 0);
        Checks.due("nothing in common: reached", x.told(2), 22);
    }

    /** "if nothing is given .. it is not REACHED any more": its SETS are not counted as changed. */
    private static void notReachedAnyMore() {
        WholeSpans x = new WholeSpans();
        x.begin(1, 10, 10);
        x.begin(3, 100, 100);
        x.op(0, 0, 0, 0);
        x.op(15, 0, 1, 5);
        x.op(0, 2, 1, 0);
        x.op(2, 0, 0, 2);
        x.op(18, 1, 0, 0);
        x.op(16, 0, 3, 7);
        Scenes.stop(x);
        Scenes.idle(x);
        Scenes.idle(x);
        // PLACE 0 had 10..MOST at 5, and with more than 100 STATEMENT 7 was next, until 10 alone is left.
        x.run();
        Checks.due("lost: reached(7)", x.reached(7) ? 1 : 0, 0);
        Checks.due("lost: pieces(7, 0)", x.pieces(7, 0), 0);
        Checks.due("lost: ways(7)", x.ways(7), 0);
        Checks.dueThrow("lost: end", Checks.INDEX, () -> x.end(7, 0, 0, false));
        Checks.due("lost: the one behind it", x.reached(8) ? 1 : 0, 0);
        Checks.due("lost: ways(5)", x.ways(5), 4);
        Checks.due("lost: reached", x.told(2), 7);
        // PLACE 0 at 1, 5 and 6.
        Checks.due("lost: narrowed", x.told(3), 3);
    }

    /** "and for STATEMENT 0 the first SETS": with nothing else given it stays; with more it keeps them. */
    private static void narrowedWithTheFirstSets() {
        WholeSpans x = new WholeSpans();
        x.begin(0, -3, 9);
        Scenes.idle(x);
        dueTold("STATEMENT 0 alone", x, 1, 0, 1, 0);
        Scenes.dueSet("STATEMENT 0 alone", x, 0, 0, "-3..9");
        WholeSpans y = new WholeSpans();
        y.begin(0, 500, 500);
        y.begin(1, 100, 100);
        y.begin(2, 1, 1);
        y.op(2, 0, 0, 2);
        y.op(11, 1, 0, 3);
        y.op(18, 0, 0, 0);
        y.op(0, 0, 0, 0);
        y.op(18, 0, 0, 0);
        y.run();
        // At 0 the first 500 stays beside what comes by 2 (LEAST..100, in the end) and by 4 (0 alone).
        Checks.due("first SETS: greatest at 0", y.end(0, 0, y.pieces(0, 0) - 1, true), 500);
    }

    /** The latest run() counts alone: what the one before it counted is forgotten. */
    private static void runAgain() {
        WholeSpans first = constantsBack(0, 10, 20, 30);
        for (int i = 0; i < 3; i++) {
            // The HEAD is STATEMENT 0, whose changes are counted anew.
            dueTold("again, three changes each", first, 3, 0, 13, 0);
        }
        WholeSpans x = counting(1, 100, 4);
        int rounds = x.told(0);
        for (int i = 0; i < 3; i++) {
            dueTold("again", x, rounds, 2, 6, 2);
        }
        x.clear();
        dueTold("cleared", x, 1, 0, 0, 0);
        Checks.due("cleared: heads", x.told(4), 0);
    }
}
