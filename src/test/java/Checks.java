/** What the project's tests share: answers that are due, exceptions that are due, and the closing line. */
final class Checks {
    static final Class<?> INDEX = IndexOutOfBoundsException.class;
    static final Class<?> ARGUMENT = IllegalArgumentException.class;
    static final Class<?> STATE = IllegalStateException.class;
    static final Class<?> UNSUPPORTED = UnsupportedOperationException.class;

    private static int right;
    private static int wrong;

    private Checks() {
    }

    static boolean due(String call, long got, long want) {
        if (got == want) {
            right++;
            return true;
        }
        wrong++;
        System.out.println(call + " answered " + got + ", due is " + want);
        return false;
    }

    static void dueText(String call, String got, String want) {
        due(call + " answered " + got + ", due is " + want + "; that they are the same", got.equals(want) ? 1 : 0, 1);
    }

    /** A SET as a text: each SPAN as low..high, with a blank between two. */
    static String set(WholeSpans x, int at, int place) {
        StringBuilder text = new StringBuilder();
        for (int k = 0; k < x.pieces(at, place); k++) {
            text.append(k == 0 ? "" : " ").append(x.end(at, place, k, false));
            text.append("..").append(x.end(at, place, k, true));
        }
        return text.toString();
    }

    static void dueSet(String what, WholeSpans x, int at, int place, String want) {
        dueText(what + ": place " + place + " at " + at, set(x, at, place), want);
    }

    static void dueThrow(String call, Class<?> want, Runnable action) {
        Class<?> got = null;
        try {
            action.run();
        } catch (RuntimeException e) {
            got = e.getClass();
        }
        due(call + " threw " + got + ", due is " + want, got == want ? 1 : 0, 1);
    }

    static void finish(String test) {
        System.out.println(test + ": " + right + " answers as due, " + wrong + " not");
        if (wrong > 0) {
            System.exit(1);
        }
    }
}
