import java.util.List;

/** The program run once, with exact numbers that are cut to 32 bits by hand. */
final class PlainTrial {
    final long[] values = new long[8];
    int done;
    int ended;
    private long link;

    PlainTrial(PlainModel model, int n, int seed) {
        link = seed;
        for (int place = 0; place < 8; place++) {
            long[] span = model.first.get(place).get(0);
            values[place] = any(span[0], span[1]);
        }
        int at = 0;
        ended = -1;
        while (ended < 0) {
            if (at >= model.program.size()) {
                ended = 0;
            } else if (done == n) {
                ended = 2;
            } else if (!within(model.facts.get(at))) {
                ended = 3;
            } else {
                at = step(model.program.get(at), at + 1);
                done++;
            }
        }
        // The promise says of 3: it never does.
        Checks.due("a PLACE outside its SET", ended == 3 ? 1 : 0, 0);
    }

    private long any(long low, long high) {
        link = link * 48271 % 2147483647;
        return low + link % (high - low + 1);
    }

    private boolean within(List<List<long[]>> facts) {
        for (int place = 0; facts != null && place < 8; place++) {
            long value = values[place];
            if (facts.get(place).stream().noneMatch(span -> span[0] <= value && value <= span[1])) {
                return false;
            }
        }
        return facts != null;
    }

    private int step(int[] s, int behind) {
        if (s[0] == 18) {
            return s[1];
        }
        if (s[0] == 19) {
            return 1000;
        }
        if (s[0] == 0 || s[0] == 10) {
            values[s[1]] = s[0] == 0 ? s[2] : any(s[2], s[3]);
            return behind;
        }
        long x = s[0] > 10 ? values[s[1]] : values[s[2]];
        if (s[0] > 10) {
            return so(s[0] - 11, x, values[s[2]]) ? s[3] : behind;
        }
        boolean two = s[0] <= 4 && s[0] >= 2 || s[0] == 7 || s[0] == 8;
        long y = two ? values[s[3]] : s[3];
        if (y == 0 && (s[0] == 7 || s[0] == 8)) {
            ended = 1;
            return behind;
        }
        values[s[1]] = switch (s[0]) {
            case 1 -> x;
            case 2 -> (int) (x + y);
            case 3 -> (int) (x - y);
            case 4 -> (int) (x * y);
            case 5 -> x & y;
            case 6 -> x >> y;
            case 7 -> (int) (x / y);
            case 8 -> x % y;
            default -> y == 0 ? (byte) x : y == 1 ? (short) x : (char) x;
        };
        return behind;
    }

    private static boolean so(int r, long x, long y) {
        return switch (r) {
            case 0 -> x < y;
            case 1 -> x <= y;
            case 2 -> x == y;
            case 3 -> x != y;
            case 4 -> x >= y;
            case 5 -> x > y;
            default -> (x & 4294967295L) < (y & 4294967295L);
        };
    }
}
