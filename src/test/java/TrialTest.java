/** Promises 11 (holds), 12 (had) and 13 (ended). */
public final class TrialTest {
    private static final int LEAST = Integer.MIN_VALUE;
    private static final int MOST = Integer.MAX_VALUE;

    private TrialTest() {
    }

    public static void main(String[] args) {
        wrongInputs();
        links();
        endings();
        acts();
        conditions();
        Checks.finish("TrialTest");
    }

    private static void wrongInputs() {
        WholeSpans x = new WholeSpans();
        x.op(18, 0, 0, 0);
        Checks.dueThrow("n wrong ahead of the state", Checks.ARGUMENT, () -> x.holds(-1, 1));
        Checks.dueThrow("never run", Checks.STATE, () -> x.holds(5, 1));
        x.run();
        Checks.dueThrow("n below", Checks.ARGUMENT, () -> x.holds(-1, 1));
        Checks.dueThrow("n above", Checks.ARGUMENT, () -> x.holds(5001, 1));
        Checks.dueThrow("seed below", Checks.ARGUMENT, () -> x.holds(5, 0));
        Checks.dueThrow("seed far below", Checks.ARGUMENT, () -> x.holds(5, LEAST));
        Checks.dueThrow("seed above", Checks.ARGUMENT, () -> x.holds(5, MOST));
        Checks.due("no holds yet", x.ended(), -1);
        Checks.dueThrow("had of none", Checks.INDEX, () -> x.had(0));
        Checks.due("the greatest n and seed", x.holds(5000, 2147483646), 5000);
        Checks.due("ended by n", x.ended(), 2);
        Checks.due("had", x.had(7), 0);
        Checks.dueThrow("had(-1)", Checks.INDEX, () -> x.had(-1));
        Checks.dueThrow("had(8)", Checks.INDEX, () -> x.had(8));
        x.begin(0, 1, 1);
        Checks.dueThrow("begin behind run", Checks.STATE, () -> x.holds(5, 1));
        Checks.due("ended as before", x.ended(), 2);
        Checks.due("had as before", x.had(0), 0);
    }

    private static void links() {
        WholeSpans x = new WholeSpans();
        x.begin(1, 10, 19);
        x.begin(3, LEAST, MOST);
        x.op(10, 4, -5, 5);
        x.op(10, 5, 7, 7);
        x.op(10, 6, 0, MOST);
        x.run();
        int seed = 99;
        long[] link = new long[12];
        link[0] = seed;
        for (int i = 1; i < link.length; i++) {
            link[i] = link[i - 1] * 48271 % 2147483647L;
        }
        Checks.due("none", x.holds(0, seed), 0);
        Checks.due("none: ended", x.ended(), 2);
        Checks.due("none: PLACE 4", x.had(4), 0);
        Checks.due("PLACE 1 takes the second link", x.had(1), 10 + link[2] % 10);
        Checks.due("PLACE 3 takes the fourth", x.had(3), LEAST + link[4]);
        Checks.due("all", x.holds(10, seed), 3);
        Checks.due("all: ended", x.ended(), 0);
        Checks.due("STATEMENT 0 takes the ninth", x.had(4), -5 + link[9] % 11);
        Checks.due("STATEMENT 1 has but one number", x.had(5), 7);
        Checks.due("STATEMENT 2 takes the eleventh", x.had(6), link[11] % 2147483648L);
    }

    private static void endings() {
        WholeSpans x = new WholeSpans();
        x.run();
        Checks.due("no STATEMENTS", x.holds(5, 1), 0);
        Checks.due("no STATEMENTS: ended", x.ended(), 0);
        x.op(19, 0, 0, 0);
        x.run();
        Checks.due("19", x.holds(5, 1), 1);
        Checks.due("19: ended", x.ended(), 0);
        Checks.due("19 as the last of n", x.holds(1, 1), 1);
        Checks.due("19 as the last of n: ended", x.ended(), 0);
        x.clear();
        x.op(0, 0, 3, 0);
        x.op(7, 1, 0, 2);
        x.run();
        Checks.due("throws", x.holds(5, 1), 2);
        Checks.due("throws: ended", x.ended(), 1);
        Checks.due("throws: had", x.had(0), 3);
        Checks.due("throws as the last of n", x.holds(2, 1), 2);
        Checks.due("throws as the last of n: ended", x.ended(), 1);
        Checks.due("not yet", x.holds(1, 1), 1);
        Checks.due("not yet: ended", x.ended(), 2);
        x.clear();
        x.op(8, 1, 0, 0);
        x.run();
        Checks.due("rest throws", x.holds(5, 1), 1);
        Checks.due("rest throws: ended", x.ended(), 1);
        x.clear();
        x.op(18, 40, 0, 0);
        x.run();
        Checks.due("to one that is not there", x.holds(5, 1), 1);
        Checks.due("to one that is not there: ended", x.ended(), 0);
        x.clear();
        x.op(1, 0, 0, 0);
        x.run();
        // Behind the last STATEMENT the program has ended, also when n were just enough.
        Checks.due("behind the last", x.holds(1, 1), 1);
        Checks.due("behind the last: ended", x.ended(), 0);
    }

    private static void dueAct(int kind, int b, int c, long want) {
        boolean two = kind >= 2 && kind <= 4 || kind == 7 || kind == 8;
        WholeSpans x = new WholeSpans();
        x.begin(0, b, b);
        x.begin(1, two ? c : 0, two ? c : 0);
        x.op(kind, 2, 0, two ? 1 : c);
        x.run();
        String what = "act " + kind + " of " + b + " and " + c;
        Checks.due(what, x.holds(9, 5), 1);
        Checks.due(what + ": ended", x.ended(), 0);
        Checks.due(what + ": had", x.had(2), want);
    }

    private static void acts() {
        dueAct(1, 77, 0, 77);
        dueAct(2, MOST, 1, LEAST);
        dueAct(3, LEAST, 1, MOST);
        dueAct(4, 65536, 32768, LEAST);
        dueAct(4, -7, 6, -42);
        dueAct(5, -1, 12, 12);
        dueAct(5, LEAST, MOST, 0);
        dueAct(6, -5, 1, -3);
        dueAct(6, LEAST, 31, -1);
        dueAct(7, -7, 2, -3);
        dueAct(7, LEAST, -1, LEAST);
        dueAct(8, -7, 2, -1);
        dueAct(8, 7, -4, 3);
        dueAct(8, LEAST, -1, 0);
        dueAct(9, 200, 0, -56);
        dueAct(9, 40000, 1, -25536);
        dueAct(9, -1, 2, 65535);
    }

    private static void conditions() {
        int[][] pairs = {{1, 2}, {2, 2}, {3, 2}, {-1, 2}, {2, -1}};
        String[] so = {"10010", "11010", "01000", "10111", "01101", "00101", "10001"};
        for (int r = 0; r < 7; r++) {
            for (int i = 0; i < pairs.length; i++) {
                WholeSpans x = new WholeSpans();
                x.begin(0, pairs[i][0], pairs[i][0]);
                x.begin(1, pairs[i][1], pairs[i][1]);
                x.op(11 + r, 0, 1, 2);
                x.op(0, 2, 1, 0);
                x.run();
                x.holds(9, 1);
                String what = "condition " + r + " of " + pairs[i][0] + " and " + pairs[i][1];
                Checks.due(what, x.had(2) == 0 ? 1 : 0, so[r].charAt(i) - '0');
                Checks.due(what + ": ended", x.ended(), 0);
            }
        }
    }
}
