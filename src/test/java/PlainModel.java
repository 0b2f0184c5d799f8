import java.util.ArrayList;
import java.util.Arrays;
import java.util.Comparator;
import java.util.List;
import java.util.TreeSet;

/**
 * The document's terms once more, word by word and without any thrift, so that the class can be held
 * against them: SETS are lists of {low, high}, FACTS are lists of SETS, null is "not REACHED".
 */
final class PlainModel {
    static final long LEAST = -2147483648L;
    static final long MOST = 2147483647L;

    final List<int[]> program = new ArrayList<>();
    final List<List<long[]>> first = new ArrayList<>();
    List<List<List<long[]>>> facts = new ArrayList<>();
    int rounds;
    int widened;
    int narrowed;

    PlainModel() {
        for (int place = 0; place < 8; place++) {
            first.add(spans(0, 0));
        }
    }

    static List<long[]> spans(long... ends) {
        List<long[]> set = new ArrayList<>();
        for (int i = 0; i < ends.length; i += 2) {
            set.add(new long[] {ends[i], ends[i + 1]});
        }
        return set;
    }

    static List<long[]> made(List<long[]> of) {
        List<long[]> sorted = new ArrayList<>(of);
        sorted.sort(Comparator.comparingLong(span -> span[0]));
        List<long[]> set = new ArrayList<>();
        for (long[] span : sorted) {
            long[] last = set.isEmpty() ? null : set.get(set.size() - 1);
            if (last != null && span[0] <= last[1] + 1) {
                last[1] = Math.max(last[1], span[1]);
            } else {
                set.add(span.clone());
            }
        }
        while (set.size() > 2) {
            int best = 0;
            for (int i = 1; i + 1 < set.size(); i++) {
                if (set.get(i + 1)[0] - set.get(i)[1] < set.get(best + 1)[0] - set.get(best)[1]) {
                    best = i;
                }
            }
            set.get(best)[1] = set.remove(best + 1)[1];
        }
        return set;
    }

    static List<long[]> joined(List<long[]> x, List<long[]> y) {
        List<long[]> all = new ArrayList<>(x);
        all.addAll(y);
        return made(all);
    }

    static List<long[]> common(List<long[]> x, List<long[]> y) {
        List<long[]> all = new ArrayList<>();
        for (long[] s : x) {
            for (long[] t : y) {
                if (Math.max(s[0], t[0]) <= Math.min(s[1], t[1])) {
                    all.add(new long[] {Math.max(s[0], t[0]), Math.min(s[1], t[1])});
                }
            }
        }
        return made(all);
    }

    static boolean same(List<long[]> x, List<long[]> y) {
        return Arrays.deepEquals(x.toArray(), y.toArray());
    }

    static long least(List<long[]> set) {
        return set.get(0)[0];
    }

    static long greatest(List<long[]> set) {
        return set.get(set.size() - 1)[1];
    }

    static List<long[]> wrapped(long lo, long hi) {
        if (hi - lo + 1 >= 4294967296L) {
            return spans(LEAST, MOST);
        }
        int l = (int) lo;
        int h = (int) hi;
        return l <= h ? spans(l, h) : spans(LEAST, h, l, MOST);
    }

    static List<long[]> cut(long x, long y, int how) {
        long least = how == 0 ? -128 : how == 1 ? -32768 : 0;
        long many = how == 0 ? 256 : 65536;
        if (y - x + 1 >= many) {
            return spans(least, least + many - 1);
        }
        long l = how == 0 ? (byte) x : how == 1 ? (short) x : (char) x;
        long h = how == 0 ? (byte) y : how == 1 ? (short) y : (char) y;
        return l <= h ? spans(l, h) : spans(least, h, l, least + many - 1);
    }

    static List<long[]> ofFour(long... four) {
        return wrapped(Arrays.stream(four).min().getAsLong(), Arrays.stream(four).max().getAsLong());
    }

    static List<long[]> withoutZero(List<long[]> set) {
        List<long[]> parts = new ArrayList<>();
        for (long[] span : set) {
            if (span[0] < 0) {
                parts.add(new long[] {span[0], Math.min(span[1], -1)});
            }
            if (span[1] > 0) {
                parts.add(new long[] {Math.max(span[0], 1), span[1]});
            }
        }
        return parts;
    }

    static List<long[]> rest(long x, long y, List<long[]> divisors) {
        long g = 0;
        long s = Long.MAX_VALUE;
        for (long[] part : divisors) {
            g = Math.max(g, Math.max(Math.abs(part[0]), Math.abs(part[1])));
            s = Math.min(s, Math.min(Math.abs(part[0]), Math.abs(part[1])));
        }
        if (Math.abs(x) < s && Math.abs(y) < s) {
            return spans(x, y);
        }
        return spans(x >= 0 ? 0 : Math.max(x, -(g - 1)), y <= 0 ? 0 : Math.min(y, g - 1));
    }

    static List<long[]> bits(long x, long y, long c) {
        if (x >= 0 && y <= c && Long.bitCount(c + 1) == 1) {
            return spans(x, y);
        }
        return x >= 0 ? spans(0, Math.min(c, y)) : spans(0, c);
    }

    /** The SET that an act (0 .. 10) makes. */
    static List<long[]> makes(int[] s, List<List<long[]>> f) {
        if (s[0] == 0) {
            return spans(s[2], s[2]);
        }
        if (s[0] == 10) {
            return spans(s[2], s[3]);
        }
        List<long[]> all = new ArrayList<>();
        for (long[] b : f.get(s[2])) {
            switch (s[0]) {
                case 1 -> all.add(b);
                case 5 -> all.addAll(bits(b[0], b[1], s[3]));
                case 6 -> all.addAll(spans((int) b[0] >> s[3], (int) b[1] >> s[3]));
                case 9 -> all.addAll(cut(b[0], b[1], s[3]));
                default -> all.addAll(makesOfTwo(s, b, f.get(s[3])));
            }
        }
        return made(all);
    }

    static List<long[]> makesOfTwo(int[] s, long[] b, List<long[]> set) {
        List<long[]> all = new ArrayList<>();
        List<long[]> divisors = withoutZero(set);
        if (s[0] == 8) {
            return divisors.isEmpty() ? all : rest(b[0], b[1], divisors);
        }
        for (long[] c : s[0] == 7 ? divisors : set) {
            all.addAll(switch (s[0]) {
                case 2 -> wrapped(b[0] + c[0], b[1] + c[1]);
                case 3 -> wrapped(b[0] - c[1], b[1] - c[0]);
                case 4 -> ofFour(b[0] * c[0], b[0] * c[1], b[1] * c[0], b[1] * c[1]);
                default -> ofFour(b[0] / c[0], b[0] / c[1], b[1] / c[0], b[1] / c[1]);
            });
        }
        return all;
    }

    static List<long[]> loses(List<long[]> x, List<long[]> y) {
        if (y.size() != 1 || least(y) != greatest(y)) {
            return x;
        }
        List<long[]> left = new ArrayList<>();
        for (long[] span : x) {
            long low = span[0] + (span[0] == least(y) ? 1 : 0);
            long high = span[1] - (span[1] == least(y) ? 1 : 0);
            if (low <= high) {
                left.add(new long[] {low, high});
            }
        }
        return left;
    }

    /** The FACTS behind a condition that is so (or not), or null: that way is not gone. */
    static List<List<long[]>> sharpened(int[] s, List<List<long[]>> f, boolean so) {
        int r = s[0] - 11;
        if (s[1] == s[2]) {
            boolean holds = r == 1 || r == 2 || r == 4;
            return so == holds ? f : null;
        }
        List<long[]> x = f.get(s[1]);
        List<long[]> y = f.get(s[2]);
        int[] opposite = {4, 5, 3, 2, 0, 1, 7};
        List<List<long[]>> out = new ArrayList<>(f);
        List<long[]> newX = x;
        List<long[]> newY = y;
        switch (so ? r : opposite[r]) {
            case 0 -> {
                newX = common(x, spans(LEAST, greatest(y) - 1));
                newY = common(y, spans(least(x) + 1, MOST));
            }
            case 1 -> {
                newX = common(x, spans(LEAST, greatest(y)));
                newY = common(y, spans(least(x), MOST));
            }
            case 2 -> {
                newX = common(x, y);
                newY = newX;
            }
            case 3 -> {
                newX = loses(x, y);
                newY = loses(y, x);
            }
            case 4 -> {
                newX = common(x, spans(least(y), MOST));
                newY = common(y, spans(LEAST, greatest(x)));
            }
            case 5 -> {
                newX = common(x, spans(least(y) + 1, MOST));
                newY = common(y, spans(LEAST, greatest(x) - 1));
            }
            case 6 -> newX = least(y) >= 0 ? common(x, spans(0, greatest(y) - 1)) : x;
            default -> { }
        }
        out.set(s[1], newX);
        out.set(s[2], newY);
        return newX.isEmpty() || newY.isEmpty() ? null : out;
    }

    int named(int at) {
        int[] s = program.get(at);
        return s[0] == 18 ? s[1] : s[0] >= 11 && s[0] < 18 ? s[3] : -1;
    }

    /** What a REACHED STATEMENT gives to the one that it names; null: nothing. */
    List<List<long[]>> givesNamed(int at) {
        int[] s = program.get(at);
        List<List<long[]>> f = facts.get(at);
        return s[0] == 18 ? f : named(at) >= 0 ? sharpened(s, f, true) : null;
    }

    List<List<long[]>> givesBehind(int at) {
        int[] s = program.get(at);
        List<List<long[]>> f = facts.get(at);
        if (s[0] >= 18) {
            return null;
        }
        if (s[0] >= 11) {
            return sharpened(s, f, false);
        }
        List<long[]> set = makes(s, f);
        if (set.isEmpty()) {
            return null;
        }
        List<List<long[]>> out = new ArrayList<>(f);
        out.set(s[1], set);
        return out;
    }

    TreeSet<Integer> heads() {
        TreeSet<Integer> heads = new TreeSet<>();
        for (int at = 0; at < program.size(); at++) {
            if (named(at) >= 0 && named(at) <= at) {
                heads.add(named(at));
            }
        }
        return heads;
    }

    TreeSet<Long> thresholds() {
        TreeSet<Long> thresholds = new TreeSet<>(List.of(LEAST, MOST));
        for (int[] s : program) {
            if (s[0] == 0 || s[0] == 10) {
                thresholds.add((long) s[2]);
            }
            if (s[0] == 10 || s[0] == 5) {
                thresholds.add((long) s[3]);
            }
        }
        return thresholds;
    }

    private int[] changes;

    void run() {
        facts = new ArrayList<>();
        for (int at = 0; at < program.size(); at++) {
            facts.add(at == 0 ? new ArrayList<>(first) : null);
        }
        changes = new int[program.size()];
        rounds = 0;
        widened = 0;
        narrowed = 0;
        boolean more = true;
        while (more) {
            rounds++;
            more = false;
            for (int at = 0; at < program.size(); at++) {
                if (facts.get(at) != null) {
                    more |= give(named(at), givesNamed(at));
                    more |= give(at + 1, givesBehind(at));
                }
            }
        }
        narrow();
        narrow();
    }

    private boolean give(int to, List<List<long[]>> given) {
        if (given == null || to >= program.size()) {
            return false;
        }
        List<List<long[]>> old = facts.get(to);
        if (old == null) {
            facts.set(to, new ArrayList<>(given));
            return true;
        }
        List<List<long[]>> now = new ArrayList<>();
        boolean changed = false;
        for (int place = 0; place < 8; place++) {
            now.add(joined(old.get(place), given.get(place)));
            changed |= !same(now.get(place), old.get(place));
        }
        if (changed && heads().contains(to) && ++changes[to] >= 4) {
            for (int place = 0; place < 8; place++) {
                if (!same(now.get(place), old.get(place))) {
                    now.set(place, widenedSet(old.get(place), now.get(place)));
                    widened++;
                }
            }
        }
        facts.set(to, now);
        return changed;
    }

    private List<long[]> widenedSet(List<long[]> old, List<long[]> now) {
        long low = least(now) < least(old) ? thresholds().floor(least(now)) : least(now);
        long high = greatest(now) > greatest(old) ? thresholds().ceiling(greatest(now)) : greatest(now);
        return spans(low, high);
    }

    private void narrow() {
        for (int at = 0; at < program.size(); at++) {
            if (facts.get(at) != null) {
                facts.set(at, narrowedFacts(at));
            }
        }
    }

    private List<List<long[]>> narrowedFacts(int at) {
        List<List<List<long[]>>> given = new ArrayList<>();
        if (at == 0) {
            given.add(first);
        }
        for (int from = 0; from < program.size(); from++) {
            if (facts.get(from) != null) {
                if (named(from) == at) {
                    given.add(givesNamed(from));
                }
                if (from + 1 == at) {
                    given.add(givesBehind(from));
                }
            }
        }
        given.removeIf(one -> one == null);
        if (given.isEmpty()) {
            return null;
        }
        List<List<long[]>> now = new ArrayList<>();
        int changed = 0;
        for (int place = 0; place < 8; place++) {
            List<long[]> all = given.get(0).get(place);
            for (List<List<long[]>> next : given) {
                all = joined(all, next.get(place));
            }
            List<long[]> old = facts.get(at).get(place);
            now.add(common(old, all));
            changed += same(now.get(place), old) ? 0 : 1;
            if (now.get(place).isEmpty()) {
                return null;
            }
        }
        narrowed += changed;
        return now;
    }

    int ways(int at) {
        if (facts.get(at) == null) {
            return 0;
        }
        int[] s = program.get(at);
        int ways = s[0] == 19 ? 8 : 0;
        if (s[0] == 7 || s[0] == 8) {
            ways += common(facts.get(at).get(s[3]), spans(0, 0)).isEmpty() ? 0 : 1;
        }
        return ways + (givesNamed(at) == null ? 0 : 2) + (givesBehind(at) == null ? 0 : 4);
    }
}
