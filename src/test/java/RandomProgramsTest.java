import java.util.ArrayList;
import java.util.List;
import java.util.Random;

/** Programs by a fixed seed: the class answers as the plain model does, and every run stays within. */
public final class RandomProgramsTest {
    private static final int PROGRAMS = 6000;
    private static final int[] EDGES = {
        0, 1, -1, 2, -2, 3, 5, 7, 10, 16, 31, 100, 127, 128, -128, -129, 255, 256, 32767, 32768, -32768, 65535, 65536,
        -2147483648, -2147483647, 2147483647, 2147483646, 1073741824, -1073741824, 46341, 715827883
    };

    // Acts of counting and conditions: with these alone, loops go round and are widened.
    private static final int[] LOOP_KINDS = {0, 2, 2, 2, 3, 3, 11, 11, 12, 13, 14, 15, 15, 16, 17, 18, 18, 10, 5, 9, 4};

    private final Random random;
    private final int places;
    private final boolean loops;

    private RandomProgramsTest(long seed) {
        random = new Random(seed);
        places = 2 + random.nextInt(7);
        loops = random.nextBoolean();
    }

    public static void main(String[] args) {
        int[] kinds = new int[4];
        int most = 0;
        for (int i = 0; i < PROGRAMS; i++) {
            RandomProgramsTest test = new RandomProgramsTest(i);
            most = Math.max(most, test.compare(i, kinds));
        }
        // Without such programs the comparison would say little.
        Checks.due("programs that were widened", kinds[0] > PROGRAMS / 20 ? 1 : 0, 1);
        Checks.due("programs that were narrowed", kinds[1] > PROGRAMS / 50 ? 1 : 0, 1);
        Checks.due("programs with SETS of two SPANS", kinds[2] > PROGRAMS / 20 ? 1 : 0, 1);
        Checks.due("programs that lost a STATEMENT by NARROWING, or never had it", kinds[3] > PROGRAMS / 20 ? 1 : 0, 1);
        System.out.println("most rounds: " + most + "; widened, narrowed, with two SPANS, with unreached: "
                + java.util.Arrays.toString(kinds));
        Checks.finish("RandomProgramsTest");
    }

    private int number() {
        return switch (random.nextInt(4)) {
            case 0 -> random.nextInt();
            case 1 -> random.nextInt(41) - 20;
            default -> EDGES[random.nextInt(EDGES.length)];
        };
    }

    private int[] statement(int count) {
        int kind = loops ? LOOP_KINDS[random.nextInt(LOOP_KINDS.length)] : random.nextInt(20);
        if (kind == 19 && random.nextInt(3) > 0) {
            kind = 2;
        }
        int a = random.nextInt(places);
        int b = random.nextInt(places);
        int c = random.nextInt(places);
        int next = random.nextInt(random.nextInt(8) == 0 ? 41 : count + 1);
        if (kind >= 11 && kind <= 17) {
            return new int[] {kind, a, b, next};
        }
        int low = number();
        int high = number();
        return switch (kind) {
            case 0 -> new int[] {kind, a, low, high};
            case 5 -> new int[] {kind, a, b, random.nextBoolean() ? low & 2147483647 : (1 << random.nextInt(31)) - 1};
            case 6 -> new int[] {kind, a, b, random.nextInt(32)};
            case 9 -> new int[] {kind, a, b, random.nextInt(3)};
            case 10 -> new int[] {kind, a, Math.min(low, high), Math.max(low, high)};
            case 18 -> new int[] {kind, next, low, high};
            case 19 -> new int[] {kind, low, high, low};
            default -> new int[] {kind, a, b, c};
        };
    }

    private int compare(int number, int[] kinds) {
        WholeSpans x = new WholeSpans();
        PlainModel model = new PlainModel();
        String name = "program " + number;
        int count = random.nextInt(10) == 0 ? 40 : random.nextInt(16);
        for (int i = 0; i < count; i++) {
            int[] s = statement(count);
            model.program.add(s);
            Checks.due(name + ": op", x.op(s[0], s[1], s[2], s[3]), i);
        }
        for (int place = 0; place < places; place++) {
            if (random.nextInt(3) > 0) {
                int p = number();
                int q = random.nextBoolean() ? number() : p + random.nextInt(10) * (p < 1000 ? 1 : 0);
                model.first.set(place, PlainModel.spans(Math.min(p, q), Math.max(p, q)));
                x.begin(place, Math.min(p, q), Math.max(p, q));
            }
        }
        model.run();
        Checks.due(name + ": run", x.run(), model.rounds);
        compareFacts(name, x, model, kinds);
        compareTold(name, x, model);
        followRuns(name, x, model);
        kinds[0] += model.widened > 0 ? 1 : 0;
        kinds[1] += model.narrowed > 0 ? 1 : 0;
        kinds[3] += model.facts.contains(null) ? 1 : 0;
        return model.rounds;
    }

    private static void compareFacts(String name, WholeSpans x, PlainModel model, int[] kinds) {
        boolean two = false;
        for (int at = 0; at < model.program.size(); at++) {
            List<List<long[]>> facts = model.facts.get(at);
            String here = name + " at " + at;
            Checks.due(here + ": reached", x.reached(at) ? 1 : 0, facts == null ? 0 : 1);
            Checks.due(here + ": ways", x.ways(at), model.ways(at));
            for (int place = 0; place < 8; place++) {
                List<long[]> set = facts == null ? new ArrayList<>() : facts.get(place);
                two |= set.size() == 2;
                if (!Checks.due(here + ": pieces of " + place, x.pieces(at, place), set.size())) {
                    continue;
                }
                for (int k = 0; k < set.size(); k++) {
                    Checks.due(here + ": low of " + place, x.end(at, place, k, false), set.get(k)[0]);
                    Checks.due(here + ": high of " + place, x.end(at, place, k, true), set.get(k)[1]);
                }
            }
        }
        kinds[2] += two ? 1 : 0;
    }

    private static void compareTold(String name, WholeSpans x, PlainModel model) {
        long reached = model.facts.stream().filter(one -> one != null).count();
        Checks.due(name + ": told 0", x.told(0), model.rounds);
        Checks.due(name + ": told 1", x.told(1), model.widened);
        Checks.due(name + ": told 2", x.told(2), reached);
        Checks.due(name + ": told 3", x.told(3), model.narrowed);
        Checks.due(name + ": told 4", x.told(4), model.heads().size());
        int k = 0;
        for (long threshold : model.thresholds()) {
            Checks.due(name + ": threshold " + k, x.threshold(k), threshold);
            k++;
        }
        int behind = k;
        Checks.dueThrow(name + ": threshold behind the last", Checks.INDEX, () -> x.threshold(behind));
    }

    private void followRuns(String name, WholeSpans x, PlainModel model) {
        for (int i = 0; i < 6; i++) {
            int n = random.nextInt(4) == 0 ? random.nextInt(20) : 300;
            int seed = 1 + random.nextInt(2147483646);
            PlainTrial trial = new PlainTrial(model, n, seed);
            Checks.due(name + ": holds", x.holds(n, seed), trial.done);
            Checks.due(name + ": ended", x.ended(), trial.ended);
            for (int place = 0; place < 8; place++) {
                Checks.due(name + ": had " + place, x.had(place), trial.values[place]);
            }
        }
    }
}
