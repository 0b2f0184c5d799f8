import java.util.ArrayList;
import java.util.List;

/**
 * "Methods throw what their comments name, the one named first when several would do", and "A call that throws
 * changes nothing": each refused call is made in every state of an object, whose answers are held against a
 * twin's, which was not asked.
 */
public final class RefusedCallsTest {
    private static final int LEAST = Scenes.LEAST;
    private static final int MOST = Scenes.MOST;

    private enum State {
        NEW, TOLD, RUN, RUN_EMPTY, HELD, TOLD_MORE, BEGUN_ANEW, CLEARED, FULL, FULL_RUN;

        boolean solved() {
            return this == RUN || this == RUN_EMPTY || this == HELD || this == FULL_RUN;
        }
    }

    private interface Call {
        void on(WholeSpans x);
    }

    private RefusedCallsTest() {
    }

    public static void main(String[] args) {
        for (State state : State.values()) {
            opRefused(state);
            beginRefused(state);
            statementsRefused(state);
            placesRefused(state);
            spansRefused(state);
            numbersRefused(state);
            notRun(state);
        }
        Checks.finish("RefusedCallsTest");
    }

    private static WholeSpans in(State state) {
        WholeSpans x = new WholeSpans();
        if (state == State.NEW) {
            return x;
        }
        if (state == State.RUN_EMPTY) {
            x.run();
            return x;
        }
        x.begin(1, 3, 9);
        x.op(9, 2, 1, 0);
        x.op(7, 3, 2, 1);
        x.op(11, 0, 1, 0);
        if (state == State.FULL || state == State.FULL_RUN) {
            while (x.size() < 40) {
                x.op(10, 4, x.size(), 100);
            }
        }
        if (state == State.TOLD) {
            return x;
        }
        x.run();
        if (state != State.RUN) {
            x.holds(7, 77);
        }
        if (state == State.TOLD_MORE || state == State.FULL) {
            tellMore(x);
        }
        if (state == State.BEGUN_ANEW) {
            x.begin(2, -1, 1);
        }
        if (state == State.CLEARED) {
            x.clear();
        }
        return x;
    }

    private static void tellMore(WholeSpans x) {
        if (x.size() < 40) {
            x.op(0, 5, 1234, 0);
        } else {
            x.begin(5, 1234, 1234);
        }
    }

    private static void due(State state, String call, Class<?> want, Call action) {
        String what = state + ": " + call;
        WholeSpans asked = in(state);
        WholeSpans twin = in(state);
        Checks.dueThrow(what, want, () -> action.on(asked));
        Checks.dueText(what + " changes nothing", answers(asked), answers(twin));
        asked.run();
        twin.run();
        asked.holds(9, 5);
        twin.holds(9, 5);
        Checks.dueText(what + " changes nothing that run() shows", answers(asked), answers(twin));
    }

    /** All that an object answers without being changed, but for the FACTS in the middle of a long program. */
    private static String answers(WholeSpans x) {
        List<String> all = new ArrayList<>();
        all.add(answer(() -> x.size()));
        all.add(answer(() -> x.ended()));
        for (int i = 0; i < 8; i++) {
            int k = i;
            all.add(answer(() -> x.had(k)));
            all.add(answer(() -> x.threshold(k)));
            all.add(answer(() -> x.told(k)));
        }
        for (int at : new int[] {0, 1, 2, x.size() - 1}) {
            all.add(answer(() -> x.ways(at)));
            all.add(answer(() -> x.reached(at) ? 1 : 0));
            for (int i = 0; i < 8; i++) {
                int place = i;
                all.add(answer(() -> x.pieces(at, place)));
                all.add(answer(() -> x.end(at, place, 0, false)));
                all.add(answer(() -> x.end(at, place, 0, true)));
            }
        }
        return all.toString();
    }

    private interface Question {
        long ask();
    }

    private static String answer(Question question) {
        try {
            return Long.toString(question.ask());
        } catch (RuntimeException e) {
            return e.getClass().getSimpleName();
        }
    }

    private static void dueOp(State state, Class<?> want, int kind, int a, int b, int c) {
        due(state, "op(" + kind + ", " + a + ", " + b + ", " + c + ")", want, x -> x.op(kind, a, b, c));
    }

    /** "IndexOutOfBoundsException: a PLACE; IllegalArgumentException: ..; UnsupportedOperationException." */
    private static void opRefused(State state) {
        boolean full = state == State.FULL || state == State.FULL_RUN;
        // A PLACE alone, with a number that is wrong too, and with the object full.
        dueOp(state, Checks.INDEX, 0, -1, 5, 0);
        dueOp(state, Checks.INDEX, 0, 8, 4321, 0);
        dueOp(state, Checks.INDEX, 10, 8, 4321, 4320);
        dueOp(state, Checks.INDEX, 2, 0, 0, 8);
        dueOp(state, Checks.INDEX, 6, 0, -1, 32);
        dueOp(state, Checks.INDEX, 11, 0, 8, 41);
        dueOp(state, Checks.INDEX, 17, -1, 0, -1);
        // A number, also with the object full.
        dueOp(state, Checks.ARGUMENT, -1, 8, 8, 8);
        dueOp(state, Checks.ARGUMENT, 20, 0, 0, 0);
        dueOp(state, Checks.ARGUMENT, 10, 0, 4321, 4320);
        dueOp(state, Checks.ARGUMENT, 5, 0, 0, -1);
        dueOp(state, Checks.ARGUMENT, 6, 0, 0, 32);
        dueOp(state, Checks.ARGUMENT, 9, 0, 0, 3);
        dueOp(state, Checks.ARGUMENT, 11, 0, 0, 41);
        dueOp(state, Checks.ARGUMENT, 18, -1, 0, 0);
        dueOp(state, Checks.ARGUMENT, 18, 41, 0, 0);
        if (full) {
            dueOp(state, Checks.UNSUPPORTED, 0, 0, 4321, 0);
            dueOp(state, Checks.UNSUPPORTED, 18, 0, 0, 0);
            dueOp(state, Checks.UNSUPPORTED, 19, 0, 0, 0);
        }
    }

    /** "IndexOutOfBoundsException; IllegalArgumentException: high is below low." */
    private static void beginRefused(State state) {
        due(state, "begin(-1, 1, 2)", Checks.INDEX, x -> x.begin(-1, 1, 2));
        due(state, "begin(8, 1, 2)", Checks.INDEX, x -> x.begin(8, 1, 2));
        due(state, "begin(8, 2, 1)", Checks.INDEX, x -> x.begin(8, 2, 1));
        due(state, "begin(1, 2, 1)", Checks.ARGUMENT, x -> x.begin(1, 2, 1));
        due(state, "begin(1, MOST, LEAST)", Checks.ARGUMENT, x -> x.begin(1, MOST, LEAST));
        due(state, "begin(1, 0, LEAST)", Checks.ARGUMENT, x -> x.begin(1, 0, LEAST));
    }

    /** "IndexOutOfBoundsException: there is no such .. STATEMENT", whether run() was called or not. */
    private static void statementsRefused(State state) {
        int size = in(state).size();
        for (int at : new int[] {LEAST, -1, size, 40, 41, MOST}) {
            due(state, "reached(" + at + ")", Checks.INDEX, x -> x.reached(at));
            due(state, "pieces(" + at + ", 0)", Checks.INDEX, x -> x.pieces(at, 0));
            due(state, "pieces(" + at + ", 8)", Checks.INDEX, x -> x.pieces(at, 8));
            due(state, "end(" + at + ", 0, 0, true)", Checks.INDEX, x -> x.end(at, 0, 0, true));
            due(state, "ways(" + at + ")", Checks.INDEX, x -> x.ways(at));
        }
    }

    /** "IndexOutOfBoundsException: there is no such PLACE", whether run() or holds() were called or not. */
    private static void placesRefused(State state) {
        for (int place : new int[] {LEAST, -1, 8, MOST}) {
            due(state, "pieces(0, " + place + ")", Checks.INDEX, x -> x.pieces(0, place));
            due(state, "end(0, " + place + ", 0, true)", Checks.INDEX, x -> x.end(0, place, 0, true));
            due(state, "had(" + place + ")", Checks.INDEX, x -> x.had(place));
        }
        if (in(state).ended() < 0) {
            due(state, "had(0)", Checks.INDEX, x -> x.had(0));
            due(state, "had(7)", Checks.INDEX, x -> x.had(7));
        }
    }

    /** "IllegalStateException; then IndexOutOfBoundsException: it has no such SPAN." */
    private static void spansRefused(State state) {
        if (in(state).size() == 0) {
            return;
        }
        Class<?> want = state.solved() ? Checks.INDEX : Checks.STATE;
        for (int k : new int[] {LEAST, -1, 1, 2, MOST}) {
            due(state, "end(0, 0, " + k + ", false)", want, x -> x.end(0, 0, k, false));
            due(state, "end(0, 0, " + k + ", true)", want, x -> x.end(0, 0, k, true));
        }
    }

    /** "IllegalArgumentException; IllegalStateException" of told and holds; threshold has no state. */
    private static void numbersRefused(State state) {
        for (int what : new int[] {LEAST, -1, 5, MOST}) {
            due(state, "told(" + what + ")", Checks.ARGUMENT, x -> x.told(what));
        }
        for (int n : new int[] {LEAST, -1, 5001, MOST}) {
            due(state, "holds(" + n + ", 1)", Checks.ARGUMENT, x -> x.holds(n, 1));
        }
        for (int seed : new int[] {LEAST, -1, 0, MOST}) {
            due(state, "holds(1, " + seed + ")", Checks.ARGUMENT, x -> x.holds(1, seed));
        }
        due(state, "holds(-1, 0)", Checks.ARGUMENT, x -> x.holds(-1, 0));
        for (int k : new int[] {LEAST, -1, 82, MOST}) {
            due(state, "threshold(" + k + ")", Checks.INDEX, x -> x.threshold(k));
        }
    }

    /** "IllegalStateException: the program was changed since run(), or never run". */
    private static void notRun(State state) {
        if (state.solved()) {
            return;
        }
        for (int i = 0; i < 5; i++) {
            int what = i;
            due(state, "told(" + what + ")", Checks.STATE, x -> x.told(what));
        }
        due(state, "holds(0, 1)", Checks.STATE, x -> x.holds(0, 1));
        due(state, "holds(5000, 2147483646)", Checks.STATE, x -> x.holds(5000, 2147483646));
        int size = in(state).size();
        for (int at : new int[] {0, size - 1}) {
            if (size > 0) {
                due(state, "reached(" + at + ")", Checks.STATE, x -> x.reached(at));
                due(state, "ways(" + at + ")", Checks.STATE, x -> x.ways(at));
                due(state, "pieces(" + at + ", 0)", Checks.STATE, x -> x.pieces(at, 0));
                due(state, "pieces(" + at + ", 7)", Checks.STATE, x -> x.pieces(at, 7));
                due(state, "end(" + at + ", 7, 0, false)", Checks.STATE, x -> x.end(at, 7, 0, false));
            }
        }
    }
}
