import java.util.ArrayList;
import java.util.List;

/**
 * The calls of the face as the promises tell them, over the plain model: each answers a text, which is the number
 * (or the truth) that is due, or the name of the exception that is.
 */
final class PlainFace {
    private static final String INDEX = "IndexOutOfBoundsException";
    private static final String ARGUMENT = "IllegalArgumentException";
    private static final String STATE = "IllegalStateException";
    private static final String UNSUPPORTED = "UnsupportedOperationException";

    // Which of a, b, c are PLACES, by KIND.
    private static final String[] PLACES = {
        "a", "ab", "abc", "abc", "abc", "ab", "ab", "abc", "abc", "ab", "a",
        "ab", "ab", "ab", "ab", "ab", "ab", "ab", "", ""
    };

    private PlainModel model = new PlainModel();
    private boolean fresh;
    private PlainTrial trial;

    int size() {
        return model.program.size();
    }

    private static boolean place(int number) {
        return 0 <= number && number <= 7;
    }

    String op(int kind, int a, int b, int c) {
        boolean known = 0 <= kind && kind <= 19;
        String places = known ? PLACES[kind] : "";
        if (places.contains("a") && !place(a) || places.contains("b") && !place(b)
                || places.contains("c") && !place(c)) {
            return INDEX;
        }
        int next = kind == 18 ? a : 11 <= kind && kind <= 17 ? c : 0;
        if (!known || next < 0 || next > 40 || kind == 5 && c < 0 || kind == 6 && (c < 0 || c > 31)
                || kind == 9 && (c < 0 || c > 2) || kind == 10 && b > c) {
            return ARGUMENT;
        }
        if (size() == 40) {
            return UNSUPPORTED;
        }
        fresh = false;
        model.program.add(new int[] {kind, a, b, c});
        return String.valueOf(size() - 1);
    }

    String begin(int place, int low, int high) {
        if (!place(place)) {
            return INDEX;
        }
        if (high < low) {
            return ARGUMENT;
        }
        fresh = false;
        model.first.set(place, PlainModel.spans(low, high));
        return String.valueOf((long) high - low + 1);
    }

    String run() {
        model.run();
        fresh = true;
        return String.valueOf(model.rounds);
    }

    /** Why the FACTS at a STATEMENT are not told; null: they are. */
    private String refused(int at, int place) {
        if (at < 0 || at >= size() || !place(place)) {
            return INDEX;
        }
        return fresh ? null : STATE;
    }

    private List<long[]> set(int at, int place) {
        return model.facts.get(at) == null ? List.of() : model.facts.get(at).get(place);
    }

    String reached(int at) {
        String refused = refused(at, 0);
        return refused != null ? refused : String.valueOf(model.facts.get(at) != null);
    }

    String pieces(int at, int place) {
        String refused = refused(at, place);
        return refused != null ? refused : String.valueOf(set(at, place).size());
    }

    String end(int at, int place, int k, boolean high) {
        String refused = refused(at, place);
        if (refused != null) {
            return refused;
        }
        List<long[]> set = set(at, place);
        return k < 0 || k >= set.size() ? INDEX : String.valueOf(set.get(k)[high ? 1 : 0]);
    }

    String ways(int at) {
        String refused = refused(at, 0);
        return refused != null ? refused : String.valueOf(model.ways(at));
    }

    String told(int what) {
        if (what < 0 || what > 4) {
            return ARGUMENT;
        }
        if (!fresh) {
            return STATE;
        }
        long reached = model.facts.stream().filter(one -> one != null).count();
        long[] all = {model.rounds, model.widened, reached, model.narrowed, model.heads().size()};
        return String.valueOf(all[what]);
    }

    String threshold(int k) {
        List<Long> all = new ArrayList<>(model.thresholds());
        return k < 0 || k >= all.size() ? INDEX : String.valueOf(all.get(k));
    }

    String holds(int n, int seed) {
        if (n < 0 || n > 5000 || seed < 1 || seed > 2147483646) {
            return ARGUMENT;
        }
        if (!fresh) {
            return STATE;
        }
        trial = new PlainTrial(model, n, seed);
        return String.valueOf(trial.done);
    }

    String had(int place) {
        return !place(place) || trial == null ? INDEX : String.valueOf(trial.values[place]);
    }

    String ended() {
        return trial == null ? "-1" : String.valueOf(trial.ended);
    }

    String clear() {
        String were = String.valueOf(size());
        model = new PlainModel();
        fresh = false;
        return were;
    }
}
