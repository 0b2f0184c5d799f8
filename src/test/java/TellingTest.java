/** Promises 1 (a new object), 2 (op), 3 (begin), 10 (threshold), 14 (clear) and 15 (size). */
public final class TellingTest {
    private static final int LEAST = Integer.MIN_VALUE;
    private static final int MOST = Integer.MAX_VALUE;

    private TellingTest() {
    }

    public static void main(String[] args) {
        newObject();
        opNumbers();
        opPlaces();
        opArguments();
        opFull();
        opThatThrowsChangesNothing();
        begin();
        thresholds();
        clearAndSize();
        Checks.finish("TellingTest");
    }

    private static void newObject() {
        WholeSpans x = new WholeSpans();
        Checks.due("new: size", x.size(), 0);
        Checks.due("new: ended", x.ended(), -1);
        Checks.due("new: threshold(0)", x.threshold(0), LEAST);
        Checks.due("new: threshold(1)", x.threshold(1), MOST);
        Checks.dueThrow("new: threshold(2)", Checks.INDEX, () -> x.threshold(2));
        Checks.dueThrow("new: had(0)", Checks.INDEX, () -> x.had(0));
        Checks.dueThrow("new: reached(0)", Checks.INDEX, () -> x.reached(0));
        Checks.dueThrow("new: pieces(0, 0)", Checks.INDEX, () -> x.pieces(0, 0));
        Checks.dueThrow("new: end(0, 0, 0, false)", Checks.INDEX, () -> x.end(0, 0, 0, false));
        Checks.dueThrow("new: ways(0)", Checks.INDEX, () -> x.ways(0));
        Checks.dueThrow("new: told(0)", Checks.STATE, () -> x.told(0));
        Checks.dueThrow("new: holds(1, 1)", Checks.STATE, () -> x.holds(1, 1));
        Checks.due("new: clear", x.clear(), 0);
        Checks.due("new: run", x.run(), 1);
        for (int what = 1; what < 5; what++) {
            Checks.due("new: told " + what, x.told(what), 0);
        }
    }

    private static void opNumbers() {
        int[][] fine = {
            {0, 7, MOST, 99}, {0, 0, LEAST, -1}, {1, 7, 0, 99}, {2, 0, 7, 7}, {3, 7, 0, 0}, {4, 0, 0, 0},
            {5, 7, 7, 0}, {5, 0, 0, MOST}, {6, 0, 7, 0}, {6, 7, 0, 31}, {7, 0, 1, 7}, {8, 7, 1, 0},
            {9, 0, 7, 0}, {9, 7, 0, 1}, {9, 0, 0, 2}, {10, 7, LEAST, MOST}, {10, 0, 5, 5},
            {11, 0, 7, 0}, {12, 7, 0, 40}, {13, 0, 0, 39}, {14, 1, 2, 3}, {15, 1, 2, 3}, {16, 1, 2, 3}, {17, 7, 7, 40},
            {18, 0, -1, 99}, {18, 40, LEAST, MOST}, {19, -1, 99, LEAST},
        };
        WholeSpans x = new WholeSpans();
        for (int i = 0; i < fine.length; i++) {
            Checks.due("op of kind " + fine[i][0], x.op(fine[i][0], fine[i][1], fine[i][2], fine[i][3]), i);
            Checks.due("size", x.size(), i + 1);
        }
    }

    private static void dueOp(Class<?> want, int kind, int a, int b, int c) {
        WholeSpans x = new WholeSpans();
        Checks.dueThrow("op(" + kind + ", " + a + ", " + b + ", " + c + ")", want, () -> x.op(kind, a, b, c));
        Checks.due("size behind an op that threw", x.size(), 0);
    }

    private static void opPlaces() {
        int[] outside = {-1, 8, LEAST, MOST};
        for (int wrong : outside) {
            for (int kind = 0; kind < 18; kind++) {
                dueOp(Checks.INDEX, kind, wrong, 0, 0);
                if (kind != 0 && kind != 10) {
                    dueOp(Checks.INDEX, kind, 0, wrong, 0);
                }
            }
            for (int kind : new int[] {2, 3, 4, 7, 8}) {
                dueOp(Checks.INDEX, kind, 0, 0, wrong);
            }
        }
        // The PLACE is named first, whatever else is wrong.
        dueOp(Checks.INDEX, 5, 8, 0, -1);
        dueOp(Checks.INDEX, 6, 0, 8, 32);
        dueOp(Checks.INDEX, 9, 8, 0, 3);
        dueOp(Checks.INDEX, 10, -1, 2, 1);
        dueOp(Checks.INDEX, 11, 0, 8, 41);
    }

    private static void opArguments() {
        for (int kind : new int[] {-1, 20, LEAST, MOST}) {
            dueOp(Checks.ARGUMENT, kind, 0, 0, 0);
            dueOp(Checks.ARGUMENT, kind, 8, 8, 8);
        }
        dueOp(Checks.ARGUMENT, 5, 0, 0, -1);
        dueOp(Checks.ARGUMENT, 5, 0, 0, LEAST);
        dueOp(Checks.ARGUMENT, 6, 0, 0, -1);
        dueOp(Checks.ARGUMENT, 6, 0, 0, 32);
        dueOp(Checks.ARGUMENT, 9, 0, 0, -1);
        dueOp(Checks.ARGUMENT, 9, 0, 0, 3);
        dueOp(Checks.ARGUMENT, 10, 0, 1, 0);
        dueOp(Checks.ARGUMENT, 10, 0, MOST, LEAST);
        for (int kind = 11; kind < 18; kind++) {
            dueOp(Checks.ARGUMENT, kind, 0, 0, -1);
            dueOp(Checks.ARGUMENT, kind, 0, 0, 41);
        }
        dueOp(Checks.ARGUMENT, 18, -1, 0, 0);
        dueOp(Checks.ARGUMENT, 18, 41, 0, 0);
    }

    private static void opFull() {
        WholeSpans x = new WholeSpans();
        for (int i = 0; i < 40; i++) {
            Checks.due("op up to 40", x.op(1, 0, 0, 0), i);
        }
        Checks.dueThrow("the 41st", Checks.UNSUPPORTED, () -> x.op(1, 0, 0, 0));
        Checks.dueThrow("the 41st, a PLACE wrong", Checks.INDEX, () -> x.op(1, 8, 0, 0));
        Checks.dueThrow("the 41st, kind wrong", Checks.ARGUMENT, () -> x.op(20, 0, 0, 0));
        Checks.due("size when full", x.size(), 40);
        Checks.due("run when full", x.run(), 2);
        Checks.due("ways of the last", x.ways(39), 4);
        Checks.dueThrow("reached(40)", Checks.INDEX, () -> x.reached(40));
    }

    private static void opThatThrowsChangesNothing() {
        WholeSpans x = new WholeSpans();
        x.op(0, 1, 5, 0);
        x.run();
        Checks.dueThrow("wrong PLACE", Checks.INDEX, () -> x.op(0, 8, 77, 0));
        Checks.dueThrow("wrong number", Checks.ARGUMENT, () -> x.op(10, 0, 78, 77));
        Checks.dueThrow("wrong begin", Checks.ARGUMENT, () -> x.begin(0, 2, 1));
        Checks.dueThrow("wrong begin", Checks.INDEX, () -> x.begin(8, 1, 2));
        Checks.due("still run", x.told(2), 1);
        Checks.due("threshold(2)", x.threshold(2), MOST);
    }

    private static void begin() {
        WholeSpans x = new WholeSpans();
        Checks.due("begin with one number", x.begin(0, 5, 5), 1);
        Checks.due("begin with two", x.begin(7, -1, 0), 2);
        Checks.due("begin with all", x.begin(3, LEAST, MOST), 4294967296L);
        Checks.due("begin anew", x.begin(0, -3, 4), 8);
        Checks.dueThrow("begin(-1, 0, 0)", Checks.INDEX, () -> x.begin(-1, 0, 0));
        Checks.dueThrow("begin(8, 0, 0)", Checks.INDEX, () -> x.begin(8, 0, 0));
        Checks.dueThrow("begin(8, 1, 0)", Checks.INDEX, () -> x.begin(8, 1, 0));
        Checks.dueThrow("begin(0, 1, 0)", Checks.ARGUMENT, () -> x.begin(0, 1, 0));
        x.op(19, 0, 0, 0);
        x.run();
        Checks.dueSet("begin", x, 0, 0, "-3..4");
        Checks.dueSet("begin", x, 0, 1, "0..0");
        Checks.dueSet("begin", x, 0, 3, "-2147483648..2147483647");
        Checks.dueSet("begin", x, 0, 7, "-1..0");
        x.begin(1, 1, 1);
        Checks.dueThrow("reached behind a begin", Checks.STATE, () -> x.reached(0));
    }

    private static void thresholds() {
        WholeSpans x = new WholeSpans();
        x.op(0, 0, 7, 1000);
        x.op(10, 0, -4, 12);
        x.op(5, 0, 0, 255);
        x.op(6, 0, 0, 3);
        x.op(9, 0, 0, 2);
        x.op(0, 0, 7, 0);
        x.op(0, 0, LEAST, 0);
        x.op(10, 0, 7, MOST);
        x.begin(0, 33, 44);
        int[] due = {LEAST, -4, 7, 12, 255, MOST};
        for (int k = 0; k < due.length; k++) {
            Checks.due("threshold " + k, x.threshold(k), due[k]);
        }
        Checks.dueThrow("threshold(6)", Checks.INDEX, () -> x.threshold(6));
        Checks.dueThrow("threshold(-1)", Checks.INDEX, () -> x.threshold(-1));
        x.clear();
        Checks.due("threshold(1) of none", x.threshold(1), MOST);
        Checks.dueThrow("threshold(2) of none", Checks.INDEX, () -> x.threshold(2));
        for (int i = 0; i < 40; i++) {
            x.op(10, 0, -1 - i, 1 + i);
        }
        Checks.due("threshold(0) of most", x.threshold(0), LEAST);
        Checks.due("threshold(1) of most", x.threshold(1), -40);
        Checks.due("threshold(80) of most", x.threshold(80), 40);
        Checks.due("threshold(81) of most", x.threshold(81), MOST);
        Checks.dueThrow("threshold(82) of most", Checks.INDEX, () -> x.threshold(82));
    }

    private static void clearAndSize() {
        WholeSpans x = new WholeSpans();
        x.begin(2, 5, 9);
        x.op(18, 0, 0, 0);
        x.op(19, 0, 0, 0);
        Checks.due("size of two", x.size(), 2);
        x.run();
        x.holds(3, 1);
        Checks.due("heads before", x.told(4), 1);
        Checks.due("clear of two", x.clear(), 2);
        Checks.due("size of none", x.size(), 0);
        Checks.due("clear again", x.clear(), 0);
        Checks.dueThrow("told behind clear", Checks.STATE, () -> x.told(0));
        Checks.dueThrow("reached behind clear", Checks.INDEX, () -> x.reached(0));
        Checks.dueThrow("holds behind clear", Checks.STATE, () -> x.holds(1, 1));
        // The latest holds() stays the latest.
        Checks.due("ended behind clear", x.ended(), 2);
        Checks.due("number behind clear", x.op(19, 0, 0, 0), 0);
        x.run();
        Checks.due("heads behind clear", x.told(4), 0);
        Checks.dueSet("clear", x, 0, 2, "0..0");
    }
}
