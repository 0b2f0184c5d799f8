import java.util.Map;
import java.util.Random;
import java.util.TreeMap;
import java.util.function.Supplier;

/** Runs of 512 calls on one object by fixed seeds, wrong calls among them: each answers as the promises tell. */
public final class RandomCallsTest {
    private static final int OBJECTS = 400;
    private static final int CALLS = 512;
    private static final Map<String, Integer> SEEN = new TreeMap<>();
    private static final String[] OFTEN = {
        "op IndexOutOfBoundsException", "op IllegalArgumentException", "op UnsupportedOperationException",
        "begin IndexOutOfBoundsException", "begin IllegalArgumentException", "reached true", "reached false",
        "reached IllegalStateException", "pieces 0", "pieces 1", "pieces 2", "end IndexOutOfBoundsException",
        "ways 0", "ways 1", "ways 2", "ways 4", "ways 5", "ways 6", "told IllegalArgumentException",
        "told IllegalStateException", "threshold IndexOutOfBoundsException", "holds IllegalArgumentException",
        "holds IllegalStateException", "had IndexOutOfBoundsException", "ended -1", "ended 0", "ended 1", "ended 2",
    };
    private static final int[] WRONG = {-1, -2147483648, 2147483647, 8, 20, 32, 40, 41, 5001};

    private final Random random;
    private final WholeSpans real = new WholeSpans();
    private final PlainFace plain = new PlainFace();
    private final String name;
    private int calls;

    private RandomCallsTest(int seed) {
        random = new Random(seed);
        name = "object " + seed;
    }

    public static void main(String[] args) {
        for (int seed = 0; seed < OBJECTS; seed++) {
            RandomCallsTest test = new RandomCallsTest(seed);
            while (test.calls < CALLS) {
                test.tell();
                test.ask();
            }
        }
        // Without them the comparison would say little.
        for (String seen : OFTEN) {
            Checks.due("answers of " + seen + " are many", SEEN.getOrDefault(seen, 0) > OBJECTS / 10 ? 1 : 0, 1);
        }
        Checks.finish("RandomCallsTest");
    }

    private void same(String call, Supplier<Object> got, String want) {
        if (calls == CALLS) {
            return;
        }
        calls++;
        String answer;
        try {
            answer = String.valueOf(got.get());
        } catch (RuntimeException e) {
            answer = e.getClass().getSimpleName();
        }
        SEEN.merge(call.split(" ")[0] + " " + answer, 1, Integer::sum);
        Checks.dueText(name + ", call " + calls + ": " + call, answer, want);
    }

    private int upTo(int most) {
        return random.nextInt(25) == 0 ? WRONG[random.nextInt(WRONG.length)] : random.nextInt(most + 1);
    }

    private int number() {
        return random.nextInt(3) == 0 ? random.nextInt() : random.nextInt(31) - 15;
    }

    private void tell() {
        if (random.nextInt(4) == 0) {
            same("clear", real::clear, plain.clear());
            if (random.nextInt(4) == 0) {
                return;
            }
        }
        // With 0 alone in most PLACES, few conditions go both ways.
        for (int place = 0; place < 4 && plain.size() == 0; place++) {
            tellBegin(place);
        }
        for (int i = random.nextInt(14); i > 0; i--) {
            if (random.nextInt(5) == 0) {
                tellBegin(upTo(7));
            } else {
                tellStatement();
            }
        }
        if (random.nextInt(8) > 0) {
            same("run", real::run, plain.run());
        }
    }

    private void tellBegin(int place) {
        int low = number();
        int high = random.nextInt(4) == 0 ? number() : Math.max(low, low + random.nextInt(20));
        same("begin " + place + " " + low + " " + high, () -> real.begin(place, low, high),
                plain.begin(place, low, high));
    }

    private void tellStatement() {
        // Few PLACES, many conditions, few jumps and ends: so that loops go round, and most STATEMENTS are REACHED.
        int kind = random.nextInt(3) == 0 ? 11 + random.nextInt(7) : upTo(random.nextInt(4) == 0 ? 19 : 10);
        int a = kind == 18 ? upTo(plain.size()) : upTo(3);
        int b = kind == 0 || kind == 10 ? number() : upTo(3);
        int c = statementC(kind, b);
        same("op " + kind + " " + a + " " + b + " " + c, () -> real.op(kind, a, b, c), plain.op(kind, a, b, c));
    }

    private int statementC(int kind, int b) {
        return switch (kind) {
            case 5 -> random.nextInt(6) == 0 ? number() : (1 << random.nextInt(31)) - 1 - random.nextInt(2);
            case 6 -> upTo(31);
            case 9 -> upTo(2);
            case 10 -> random.nextInt(6) == 0 ? number() : Math.max(b, b + random.nextInt(20));
            case 11, 12, 13, 14, 15, 16, 17 -> upTo(plain.size() + 2);
            default -> upTo(3);
        };
    }

    private void ask() {
        for (int i = random.nextInt(40); i > 0; i--) {
            int at = upTo(Math.max(0, plain.size() - 1));
            int place = upTo(random.nextBoolean() ? 3 : 7);
            switch (random.nextInt(10)) {
                case 0 -> same("reached " + at, () -> real.reached(at), plain.reached(at));
                case 1 -> same("pieces " + at + " " + place, () -> real.pieces(at, place), plain.pieces(at, place));
                case 2, 3, 4 -> askEnd(at, place);
                case 5 -> same("ways " + at, () -> real.ways(at), plain.ways(at));
                case 6 -> askTold(upTo(4), upTo(6));
                case 7 -> askHolds(upTo(5000), upTo(2147483645));
                case 8 -> same("had " + place, () -> real.had(place), plain.had(place));
                default -> {
                    same("ended", real::ended, plain.ended());
                    same("size", real::size, String.valueOf(plain.size()));
                }
            }
        }
    }

    private void askEnd(int at, int place) {
        int k = upTo(1);
        boolean high = random.nextBoolean();
        same("end " + at + " " + place + " " + k + " " + high, () -> real.end(at, place, k, high),
                plain.end(at, place, k, high));
    }

    private void askTold(int what, int k) {
        same("told " + what, () -> real.told(what), plain.told(what));
        same("threshold " + k, () -> real.threshold(k), plain.threshold(k));
    }

    private void askHolds(int n, int seed) {
        int steps = random.nextBoolean() ? n % 30 : n;
        same("holds " + steps + " " + seed, () -> real.holds(steps, seed), plain.holds(steps, seed));
    }
}
