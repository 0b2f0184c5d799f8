import java.util.ArrayList;

/**
 * Spans of whole numbers at each place of a small program: what each place can hold ahead of each
 * statement. Words in capitals are the terms of the document.
 */
public final class WholeSpans {
    private static final int LEAST = -2147483648;
    private static final int MOST = 2147483647;
    private static final long ALL_NUMBERS = 4294967296L;
    private static final int PLACES = 8;
    private static final int MOST_STATEMENTS = 40;

    private static final int NUMBER = 0;
    private static final int COPY = 1;
    private static final int SUM = 2;
    private static final int DIFFERENCE = 3;
    private static final int PRODUCT = 4;
    private static final int BITS = 5;
    private static final int MOVED = 6;
    private static final int QUOTIENT = 7;
    private static final int REST = 8;
    private static final int CUT = 9;
    private static final int ANY = 10;
    private static final int FIRST_CONDITION = 11;
    private static final int JUMP = 18;
    private static final int STOP = 19;

    private static final int LESS = 0;
    private static final int AT_MOST = 1;
    private static final int EQUAL = 2;
    private static final int OTHER = 3;
    private static final int AT_LEAST = 4;
    private static final int MORE = 5;
    private static final int LESS_WITHOUT_SIGN = 6;
    private static final int NOT_LESS_WITHOUT_SIGN = 7;

    private static final int CUT_TO_8_BITS = 0;
    private static final int CUT_TO_16_BITS = 1;
    private static final int CUT_TO_16_BITS_WITHOUT_SIGN = 2;

    private static final int WAY_THROWN = 1;
    private static final int WAY_NAMED = 2;
    private static final int WAY_BEHIND = 4;
    private static final int WAY_STOPPED = 8;

    private static final int TOLD_ROUNDS = 0;
    private static final int TOLD_WIDENED = 1;
    private static final int TOLD_REACHED = 2;
    private static final int TOLD_NARROWED = 3;
    private static final int TOLD_HEADS = 4;

    private static final int MOST_STEPS = 5000;
    private static final int MOST_SEED = 2147483646;

    private final Program program;
    private final Solver solver;
    private final Trial trial;
    private boolean solved;

    public WholeSpans() {
        program = new Program();
        solver = new Solver(program);
        trial = new Trial(program);
        solved = false;
    }

    public int op(int kind, int a, int b, int c)
            throws IndexOutOfBoundsException, IllegalArgumentException, UnsupportedOperationException {
        if (!placesAreThere(kind, a, b, c)) {
            throw new IndexOutOfBoundsException("there is no such place");
        }
        if (!numbersAreSo(kind, a, b, c)) {
            throw new IllegalArgumentException("the statement is not as it must be");
        }
        if (program.statements.size() >= MOST_STATEMENTS) {
            throw new UnsupportedOperationException("there are 40 statements");
        }
        solved = false;
        return program.tell(kind, a, b, c);
    }

    public long begin(int place, int low, int high) throws IndexOutOfBoundsException, IllegalArgumentException {
        requirePlace(place);
        if (high < low) {
            throw new IllegalArgumentException("high is below low");
        }
        solved = false;
        program.first[place].becomeSpan(low, high);
        return (long) high - low + 1;
    }

    public int run() {
        solver.prepare();
        solver.doRounds();
        solver.narrow();
        solver.narrow();
        solved = true;
        return solver.rounds;
    }

    public boolean reached(int at) throws IndexOutOfBoundsException, IllegalStateException {
        requireStatement(at);
        requireSolved();
        return program.statements.get(at).known;
    }

    public int pieces(int at, int place) throws IndexOutOfBoundsException, IllegalStateException {
        requireStatement(at);
        requirePlace(place);
        requireSolved();
        Statement statement = program.statements.get(at);
        return statement.known ? statement.sets[place].spans : 0;
    }

    public int end(int at, int place, int k, boolean high) throws IndexOutOfBoundsException, IllegalStateException {
        requireStatement(at);
        requirePlace(place);
        requireSolved();
        Statement statement = program.statements.get(at);
        SpanSet set = statement.sets[place];
        if (!statement.known || k < 0 || k >= set.spans) {
            throw new IndexOutOfBoundsException("there is no such span");
        }
        return high ? set.high(k) : set.low(k);
    }

    public int ways(int at) throws IndexOutOfBoundsException, IllegalStateException {
        requireStatement(at);
        requireSolved();
        Statement statement = program.statements.get(at);
        return statement.known ? solver.step.waysFrom(statement) : 0;
    }

    public int told(int what) throws IllegalArgumentException, IllegalStateException {
        if (what < TOLD_ROUNDS || what > TOLD_HEADS) {
            throw new IllegalArgumentException("there is no such thing to tell");
        }
        requireSolved();
        switch (what) {
            case TOLD_ROUNDS:
                return solver.rounds;
            case TOLD_WIDENED:
                return solver.widened;
            case TOLD_REACHED:
                return program.countKnown();
            case TOLD_NARROWED:
                return solver.narrowed;
            default:
                return program.countHeads();
        }
    }

    public int threshold(int k) throws IndexOutOfBoundsException {
        Thresholds thresholds = program.thresholds;
        if (k < 0 || k >= thresholds.count) {
            throw new IndexOutOfBoundsException("there are not so many thresholds");
        }
        return thresholds.values[k];
    }

    public int holds(int n, int seed) throws IllegalArgumentException, IllegalStateException {
        if (n < 0 || n > MOST_STEPS || seed < 1 || seed > MOST_SEED) {
            throw new IllegalArgumentException("n or seed is not as it must be");
        }
        requireSolved();
        return trial.follow(n, seed);
    }

    public int had(int place) throws IndexOutOfBoundsException {
        requirePlace(place);
        if (trial.ending == Trial.NEVER) {
            throw new IndexOutOfBoundsException("holds was never called");
        }
        return trial.values[place];
    }

    public int ended() {
        return trial.ending;
    }

    public int clear() {
        int before = program.statements.size();
        program.forget();
        solved = false;
        return before;
    }

    public int size() {
        return program.statements.size();
    }

    private static boolean isPlace(int number) {
        return number >= 0 && number < PLACES;
    }

    private static boolean isCondition(int kind) {
        return kind >= FIRST_CONDITION && kind < JUMP;
    }

    private static boolean namesTwoOperands(int kind) {
        return kind >= SUM && kind <= PRODUCT || kind == QUOTIENT || kind == REST;
    }

    private static boolean placesAreThere(int kind, int a, int b, int c) {
        boolean namesA = kind >= NUMBER && kind < JUMP;
        boolean namesB = namesA && kind != NUMBER && kind != ANY;
        return (!namesA || isPlace(a)) && (!namesB || isPlace(b)) && (!namesTwoOperands(kind) || isPlace(c));
    }

    private static boolean numbersAreSo(int kind, int a, int b, int c) {
        if (isCondition(kind)) {
            return mayBeNext(c);
        }
        switch (kind) {
            case BITS:
                return c >= 0;
            case MOVED:
                return c >= 0 && c <= 31;
            case CUT:
                return c >= CUT_TO_8_BITS && c <= CUT_TO_16_BITS_WITHOUT_SIGN;
            case ANY:
                return b <= c;
            case JUMP:
                return mayBeNext(a);
            default:
                return kind >= NUMBER && kind <= STOP;
        }
    }

    private static boolean mayBeNext(int number) {
        return number >= 0 && number <= MOST_STATEMENTS;
    }

    private static void requirePlace(int place) {
        if (!isPlace(place)) {
            throw new IndexOutOfBoundsException("there is no such place");
        }
    }

    private void requireStatement(int at) {
        if (!program.isThere(at)) {
            throw new IndexOutOfBoundsException("there is no such statement");
        }
    }

    private void requireSolved() {
        if (!solved) {
            throw new IllegalStateException("the program was changed since run, or never run");
        }
    }

    private static SpanSet[] makeSets() {
        SpanSet[] sets = new SpanSet[PLACES];
        for (int place = 0; place < PLACES; place++) {
            sets[place] = new SpanSet();
        }
        return sets;
    }

    private static void copySets(SpanSet[] from, SpanSet[] to) {
        for (int place = 0; place < PLACES; place++) {
            to[place].becomeCopy(from[place]);
        }
    }

    /** A SET, or nothing: the SPANS rise and do not touch. A new one has 0 alone. */
    private static final class SpanSet {
        private int spans = 1;
        private int low;
        private int high;
        private int secondLow;
        private int secondHigh;

        int low(int k) {
            return k == 0 ? low : secondLow;
        }

        int high(int k) {
            return k == 0 ? high : secondHigh;
        }

        int least() {
            return low;
        }

        int greatest() {
            return spans == 2 ? secondHigh : high;
        }

        boolean isNothing() {
            return spans == 0;
        }

        boolean isOneNumber() {
            return spans == 1 && low == high;
        }

        boolean has(int number) {
            return spans > 0 && low <= number && number <= high
                    || spans == 2 && secondLow <= number && number <= secondHigh;
        }

        boolean isSame(SpanSet other) {
            return spans == other.spans && low == other.low && high == other.high
                    && (spans < 2 || secondLow == other.secondLow && secondHigh == other.secondHigh);
        }

        void becomeNothing() {
            spans = 0;
        }

        void becomeSpan(int from, int to) {
            spans = 1;
            low = from;
            high = to;
        }

        void becomeCopy(SpanSet other) {
            spans = other.spans;
            low = other.low;
            high = other.high;
            secondLow = other.secondLow;
            secondHigh = other.secondHigh;
        }

        /** The SPAN must lie above those that are there, and not touch them. */
        void append(int from, int to) {
            if (spans == 0) {
                low = from;
                high = to;
                spans = 1;
            } else {
                secondLow = from;
                secondHigh = to;
                spans = 2;
            }
        }

        /** COMMON of the other SET and a SPAN; the SPAN's ends may lie outside 32 bits, or the wrong way round. */
        void becomePart(SpanSet other, long from, long to) {
            becomeNothing();
            for (int k = 0; k < other.spans; k++) {
                long partLow = Math.max(other.low(k), from);
                long partHigh = Math.min(other.high(k), to);
                if (partLow <= partHigh) {
                    append((int) partLow, (int) partHigh);
                }
            }
        }

        /** The other SET, which loses a number where that is an end of a SPAN. */
        void becomeWithoutEnd(SpanSet other, int number) {
            becomeNothing();
            for (int k = 0; k < other.spans; k++) {
                long restLow = other.low(k) == number ? number + 1L : other.low(k);
                long restHigh = other.high(k) == number ? number - 1L : other.high(k);
                if (restLow <= restHigh) {
                    append((int) restLow, (int) restHigh);
                }
            }
        }
    }

    /** SPANS are gathered here, until a SET is MADE of them. */
    private static final class Gathering {
        // A quotient brings the most: 2 SPANS by 3 parts of a divisor, each in 2 when it goes round.
        private static final int CAPACITY = 16;

        private final int[] lows = new int[CAPACITY];
        private final int[] highs = new int[CAPACITY];
        private int count;

        void startAnew() {
            count = 0;
        }

        void add(int low, int high) {
            if (count >= CAPACITY) {
                return;
            }
            int at = count;
            while (at > 0 && lows[at - 1] > low) {
                lows[at] = lows[at - 1];
                highs[at] = highs[at - 1];
                at--;
            }
            lows[at] = low;
            highs[at] = high;
            count++;
        }

        void addAll(SpanSet set) {
            for (int k = 0; k < set.spans; k++) {
                add(set.low(k), set.high(k));
            }
        }

        /** Exact numbers lo .. hi, going round among many numbers (a power of 2) from least on. */
        void addRound(long lo, long hi, long least, long many) {
            long most = least + many - 1;
            if (hi - lo >= many - 1) {
                add((int) least, (int) most);
                return;
            }
            long low = least + (lo - least & many - 1);
            long high = least + (hi - least & many - 1);
            if (low <= high) {
                add((int) low, (int) high);
            } else {
                add((int) least, (int) high);
                add((int) low, (int) most);
            }
        }

        void makeInto(SpanSet out) {
            uniteTouching();
            for (int tooMany = count; tooMany > 2; tooMany--) {
                uniteClosest();
            }
            out.becomeNothing();
            for (int i = 0; i < count; i++) {
                out.append(lows[i], highs[i]);
            }
        }

        void makeJoined(SpanSet x, SpanSet y, SpanSet out) {
            startAnew();
            addAll(x);
            addAll(y);
            makeInto(out);
        }

        void makeCommon(SpanSet x, SpanSet y, SpanSet out) {
            startAnew();
            for (int i = 0; i < x.spans; i++) {
                for (int j = 0; j < y.spans; j++) {
                    int low = Math.max(x.low(i), y.low(j));
                    int high = Math.min(x.high(i), y.high(j));
                    if (low <= high) {
                        add(low, high);
                    }
                }
            }
            makeInto(out);
        }

        private void uniteTouching() {
            int kept = 0;
            for (int i = 1; i < count; i++) {
                if (lows[i] <= highs[kept] + 1L) {
                    highs[kept] = highs[i] > highs[kept] ? highs[i] : highs[kept];
                } else {
                    kept++;
                    lows[kept] = lows[i];
                    highs[kept] = highs[i];
                }
            }
            count = count == 0 ? 0 : kept + 1;
        }

        private void uniteClosest() {
            int lower = 0;
            long fewest = ALL_NUMBERS;
            for (int i = 0; i + 1 < count; i++) {
                long between = (long) lows[i + 1] - highs[i];
                if (between < fewest) {
                    fewest = between;
                    lower = i;
                }
            }
            highs[lower] = highs[lower + 1];
            for (int i = lower + 1; i + 1 < count; i++) {
                lows[i] = lows[i + 1];
                highs[i] = highs[i + 1];
            }
            count--;
        }
    }

    /** The THRESHOLDS, rising, each once. */
    private static final class Thresholds {
        private final int[] values = new int[2 + 2 * MOST_STATEMENTS];
        private int count;

        Thresholds() {
            forgetAll();
        }

        void forgetAll() {
            values[0] = LEAST;
            values[1] = MOST;
            count = 2;
        }

        void add(int number) {
            int at = firstNotBelow(number);
            if (values[at] == number || count >= values.length) {
                return;
            }
            for (int i = count; i > at; i--) {
                values[i] = values[i - 1];
            }
            values[at] = number;
            count++;
        }

        int leastNotBelow(int number) {
            return values[firstNotBelow(number)];
        }

        int greatestNotAbove(int number) {
            int at = firstNotBelow(number);
            return values[at] == number || at == 0 ? values[at] : values[at - 1];
        }

        private int firstNotBelow(int number) {
            int at = 0;
            while (at < count - 1 && values[at] < number) {
                at++;
            }
            return at;
        }
    }

    /** A STATEMENT and the FACTS at it. */
    private static final class Statement {
        private static final int NONE = -1;

        private final int kind;
        private final int a;
        private final int b;
        private final int c;
        private final SpanSet[] sets;
        private boolean head;
        private boolean known;
        // Giving again what was given before changes nothing: only a changed STATEMENT has to give.
        private boolean stirred;
        private int changes;

        Statement(int kind, int a, int b, int c) {
            this.kind = kind;
            this.a = a;
            this.b = b;
            this.c = c;
            sets = makeSets();
        }

        int named() {
            if (kind == JUMP) {
                return a;
            }
            return isCondition(kind) ? c : NONE;
        }

        void forgetFacts() {
            known = false;
            stirred = false;
            changes = 0;
        }

        void becomeKnown(SpanSet[] given) {
            copySets(given, sets);
            known = true;
            stirred = true;
        }
    }

    private static final class Program {
        private final ArrayList<Statement> statements = new ArrayList<>();
        private final SpanSet[] first = makeSets();
        private final Thresholds thresholds = new Thresholds();

        int tell(int kind, int a, int b, int c) {
            int number = statements.size();
            Statement statement = new Statement(kind, a, b, c);
            statements.add(statement);
            if (kind == NUMBER || kind == ANY) {
                thresholds.add(b);
            }
            if (kind == BITS || kind == ANY) {
                thresholds.add(c);
            }
            int named = statement.named();
            if (named >= 0 && named <= number) {
                statements.get(named).head = true;
            }
            return number;
        }

        void forget() {
            statements.clear();
            thresholds.forgetAll();
            for (int place = 0; place < PLACES; place++) {
                first[place].becomeSpan(0, 0);
            }
        }

        boolean isThere(int number) {
            return number >= 0 && number < statements.size();
        }

        int countKnown() {
            int count = 0;
            for (int i = 0; i < statements.size(); i++) {
                count += statements.get(i).known ? 1 : 0;
            }
            return count;
        }

        int countHeads() {
            int count = 0;
            for (int i = 0; i < statements.size(); i++) {
                count += statements.get(i).head ? 1 : 0;
            }
            return count;
        }
    }

    /** What one STATEMENT gives to those that can be next: the FACTS stand in given. */
    private static final class Step {
        private final Gathering gathering = new Gathering();
        private final SpanSet[] given = makeSets();
        private final SpanSet below = new SpanSet();
        private final SpanSet above = new SpanSet();

        int waysFrom(Statement s) {
            int ways = s.kind == STOP ? WAY_STOPPED : 0;
            if ((s.kind == QUOTIENT || s.kind == REST) && s.sets[s.c].has(0)) {
                ways += WAY_THROWN;
            }
            if (goesToNamed(s)) {
                ways += WAY_NAMED;
            }
            if (goesBehind(s)) {
                ways += WAY_BEHIND;
            }
            return ways;
        }

        boolean goesToNamed(Statement s) {
            if (s.named() == Statement.NONE) {
                return false;
            }
            copySets(s.sets, given);
            return s.kind == JUMP || sharpen(s, s.kind - FIRST_CONDITION);
        }

        boolean goesBehind(Statement s) {
            if (s.kind == JUMP || s.kind == STOP) {
                return false;
            }
            copySets(s.sets, given);
            if (isCondition(s.kind)) {
                return sharpen(s, opposite(s.kind - FIRST_CONDITION));
            }
            gathering.startAnew();
            switch (s.kind) {
                case NUMBER:
                    gathering.add(s.b, s.b);
                    break;
                case ANY:
                    gathering.add(s.b, s.c);
                    break;
                case SUM:
                case DIFFERENCE:
                case PRODUCT:
                    gatherPairs(s.kind, s.sets[s.b], s.sets[s.c]);
                    break;
                case QUOTIENT:
                    splitDivisor(s.sets[s.c]);
                    gatherPairs(QUOTIENT, s.sets[s.b], below);
                    gatherPairs(QUOTIENT, s.sets[s.b], above);
                    break;
                case REST:
                    splitDivisor(s.sets[s.c]);
                    gatherRests(s.sets[s.b]);
                    break;
                default:
                    gatherOfOne(s.kind, s.sets[s.b], s.c);
                    break;
            }
            gathering.makeInto(given[s.a]);
            return !given[s.a].isNothing();
        }

        private void splitDivisor(SpanSet divisor) {
            below.becomePart(divisor, LEAST, -1);
            above.becomePart(divisor, 1, MOST);
        }

        private void gatherOfOne(int kind, SpanSet x, int c) {
            for (int k = 0; k < x.spans; k++) {
                int low = x.low(k);
                int high = x.high(k);
                if (kind == COPY) {
                    gathering.add(low, high);
                } else if (kind == MOVED) {
                    gathering.add(low >> c, high >> c);
                } else if (kind == BITS) {
                    addBits(low, high, c);
                } else if (c == CUT_TO_8_BITS) {
                    gathering.addRound(low, high, -128, 256);
                } else {
                    gathering.addRound(low, high, c == CUT_TO_16_BITS ? -32768 : 0, 65536);
                }
            }
        }

        private void addBits(int low, int high, int mask) {
            boolean maskIsAllOnes = (mask & mask + 1) == 0;
            if (low < 0) {
                gathering.add(0, mask);
            } else if (high <= mask && maskIsAllOnes) {
                gathering.add(low, high);
            } else {
                gathering.add(0, Math.min(mask, high));
            }
        }

        /** The least and the greatest result of two SPANS come of their ends, whichever of these acts it is. */
        private void gatherPairs(int kind, SpanSet x, SpanSet y) {
            for (int i = 0; i < x.spans; i++) {
                for (int j = 0; j < y.spans; j++) {
                    long p = exact(kind, x.low(i), y.low(j));
                    long q = exact(kind, x.low(i), y.high(j));
                    long r = exact(kind, x.high(i), y.low(j));
                    long s = exact(kind, x.high(i), y.high(j));
                    long lo = Math.min(Math.min(p, q), Math.min(r, s));
                    long hi = Math.max(Math.max(p, q), Math.max(r, s));
                    gathering.addRound(lo, hi, LEAST, ALL_NUMBERS);
                }
            }
        }

        private static long exact(int kind, long x, long y) {
            switch (kind) {
                case SUM:
                    return x + y;
                case DIFFERENCE:
                    return x - y;
                case PRODUCT:
                    return x * y;
                default:
                    // The divisor was split at 0, so the other answer is never given.
                    return y == 0 ? 0 : x / y;
            }
        }

        /** The divisor's numbers stand in below and above. */
        private void gatherRests(SpanSet x) {
            if (below.isNothing() && above.isNothing()) {
                return;
            }
            long leastSize = ALL_NUMBERS;
            long greatestSize = 0;
            if (!below.isNothing()) {
                leastSize = -(long) below.greatest();
                greatestSize = -(long) below.least();
            }
            if (!above.isNothing()) {
                leastSize = Math.min(leastSize, above.least());
                greatestSize = Math.max(greatestSize, above.greatest());
            }
            for (int k = 0; k < x.spans; k++) {
                addRest(x.low(k), x.high(k), leastSize, greatestSize - 1);
            }
        }

        private void addRest(int low, int high, long leastSize, long greatestRest) {
            if (-leastSize < low && high < leastSize) {
                gathering.add(low, high);
                return;
            }
            long restLow = low >= 0 ? 0 : Math.max(low, -greatestRest);
            long restHigh = high <= 0 ? 0 : Math.min(high, greatestRest);
            gathering.add((int) restLow, (int) restHigh);
        }

        private static int opposite(int relation) {
            switch (relation) {
                case LESS:
                    return AT_LEAST;
                case AT_MOST:
                    return MORE;
                case EQUAL:
                    return OTHER;
                case OTHER:
                    return EQUAL;
                case AT_LEAST:
                    return LESS;
                case MORE:
                    return AT_MOST;
                default:
                    return NOT_LESS_WITHOUT_SIGN;
            }
        }

        /** Sharpens given, a copy of the STATEMENT's SETS; false: that way is not gone. */
        private boolean sharpen(Statement s, int relation) {
            if (s.a == s.b) {
                return relation == AT_MOST || relation == EQUAL || relation == AT_LEAST
                        || relation == NOT_LESS_WITHOUT_SIGN;
            }
            // a >= b and a > b are b <= a and b < a.
            boolean turned = relation == AT_LEAST || relation == MORE;
            int lesser = turned ? s.b : s.a;
            int greater = turned ? s.a : s.b;
            SpanSet x = s.sets[lesser];
            SpanSet y = s.sets[greater];
            switch (relation) {
                case LESS:
                case MORE:
                    given[lesser].becomePart(x, LEAST, y.greatest() - 1L);
                    given[greater].becomePart(y, x.least() + 1L, MOST);
                    break;
                case AT_MOST:
                case AT_LEAST:
                    given[lesser].becomePart(x, LEAST, y.greatest());
                    given[greater].becomePart(y, x.least(), MOST);
                    break;
                case EQUAL:
                    gathering.makeCommon(x, y, given[s.a]);
                    given[s.b].becomeCopy(given[s.a]);
                    break;
                case OTHER:
                    sharpenOther(x, y, s.a, s.b);
                    break;
                case LESS_WITHOUT_SIGN:
                    if (y.least() >= 0) {
                        given[s.a].becomePart(x, 0, y.greatest() - 1L);
                    }
                    break;
                default:
                    break;
            }
            return !given[s.a].isNothing() && !given[s.b].isNothing();
        }

        private void sharpenOther(SpanSet x, SpanSet y, int a, int b) {
            if (y.isOneNumber()) {
                given[a].becomeWithoutEnd(x, y.least());
            }
            if (x.isOneNumber()) {
                given[b].becomeWithoutEnd(y, x.least());
            }
        }
    }

    /** Works out the FACTS: ROUNDS, then NARROWING. */
    private static final class Solver {
        // Each change of a HEAD moves an end to one of 82 THRESHOLDS: 40 HEADS of 8 PLACES stay far below this.
        private static final int MOST_ROUNDS = 1000000;
        private static final int CHANGES_BEFORE_WIDENING = 3;

        private final Program program;
        private final Step step = new Step();
        private final Gathering gathering = new Gathering();
        private final SpanSet[] incoming = makeSets();
        private final SpanSet result = new SpanSet();
        private int rounds;
        private int widened;
        private int narrowed;

        Solver(Program program) {
            this.program = program;
        }

        void prepare() {
            rounds = 0;
            widened = 0;
            narrowed = 0;
            for (int i = 0; i < program.statements.size(); i++) {
                program.statements.get(i).forgetFacts();
            }
            if (program.isThere(0)) {
                program.statements.get(0).becomeKnown(program.first);
            }
        }

        void doRounds() {
            boolean changed = true;
            while (changed && rounds < MOST_ROUNDS) {
                rounds++;
                changed = false;
                for (int i = 0; i < program.statements.size(); i++) {
                    changed |= giveFrom(program.statements.get(i), i + 1);
                }
            }
        }

        private boolean giveFrom(Statement s, int behind) {
            if (!s.known || !s.stirred) {
                return false;
            }
            s.stirred = false;
            boolean changed = false;
            if (step.goesToNamed(s)) {
                changed |= giveTo(s.named());
            }
            if (step.goesBehind(s)) {
                changed |= giveTo(behind);
            }
            return changed;
        }

        private boolean giveTo(int number) {
            if (!program.isThere(number)) {
                return false;
            }
            Statement to = program.statements.get(number);
            if (!to.known) {
                to.becomeKnown(step.given);
                return true;
            }
            boolean changed = false;
            for (int place = 0; place < PLACES; place++) {
                SpanSet set = to.sets[place];
                if (!set.isSame(step.given[place])) {
                    gathering.makeJoined(set, step.given[place], result);
                    if (!set.isSame(result)) {
                        to.changes += changed ? 0 : 1;
                        changed = true;
                        grow(to, set);
                    }
                }
            }
            to.stirred |= changed;
            return changed;
        }

        /** The SET becomes the result, WIDENED where the STATEMENT is a HEAD that changed often. */
        private void grow(Statement to, SpanSet set) {
            if (to.head && to.changes > CHANGES_BEFORE_WIDENING) {
                int low = result.least();
                int high = result.greatest();
                if (low < set.least()) {
                    low = program.thresholds.greatestNotAbove(low);
                }
                if (high > set.greatest()) {
                    high = program.thresholds.leastNotBelow(high);
                }
                result.becomeSpan(low, high);
                widened++;
            }
            set.becomeCopy(result);
        }

        void narrow() {
            for (int i = 0; i < program.statements.size(); i++) {
                Statement s = program.statements.get(i);
                if (s.known) {
                    s.known = gatherIncoming(i) && makeIncomingCommon(s.sets);
                    if (s.known) {
                        narrowed += countOthers(s.sets);
                        copySets(incoming, s.sets);
                    }
                }
            }
        }

        /** JOINS in incoming what a STATEMENT is given now; false: it is given nothing. */
        private boolean gatherIncoming(int number) {
            boolean any = number == 0;
            if (any) {
                copySets(program.first, incoming);
            }
            for (int i = 0; i < program.statements.size(); i++) {
                Statement s = program.statements.get(i);
                if (s.known && s.named() == number && step.goesToNamed(s)) {
                    takeGiven(any);
                    any = true;
                }
                if (s.known && i + 1 == number && step.goesBehind(s)) {
                    takeGiven(any);
                    any = true;
                }
            }
            return any;
        }

        private void takeGiven(boolean joining) {
            if (!joining) {
                copySets(step.given, incoming);
                return;
            }
            for (int place = 0; place < PLACES; place++) {
                gathering.makeJoined(incoming[place], step.given[place], incoming[place]);
            }
        }

        private boolean makeIncomingCommon(SpanSet[] sets) {
            for (int place = 0; place < PLACES; place++) {
                gathering.makeCommon(sets[place], incoming[place], incoming[place]);
                if (incoming[place].isNothing()) {
                    return false;
                }
            }
            return true;
        }

        private int countOthers(SpanSet[] sets) {
            int count = 0;
            for (int place = 0; place < PLACES; place++) {
                count += sets[place].isSame(incoming[place]) ? 0 : 1;
            }
            return count;
        }
    }

    /** The program run once with numbers. */
    private static final class Trial {
        private static final int NEVER = -1;
        private static final int BY_ITSELF = 0;
        private static final int BY_THROWING = 1;
        private static final int BY_COUNT = 2;
        private static final int OUTSIDE = 3;

        private static final int THROWN = -1;
        private static final int NOT_THERE = MOST_STATEMENTS;

        private static final long LINK_FACTOR = 48271;
        private static final long LINK_MODULUS = 2147483647;

        private final Program program;
        private final int[] values = new int[PLACES];
        private long link;
        private int ending = NEVER;

        Trial(Program program) {
            this.program = program;
        }

        int follow(int n, int seed) {
            link = seed;
            for (int place = 0; place < PLACES; place++) {
                SpanSet set = program.first[place];
                values[place] = anyOf(set.least(), set.greatest());
            }
            int next = 0;
            int done = 0;
            while (done < n && program.isThere(next) && liesWithin(program.statements.get(next))) {
                next = doOne(program.statements.get(next), next + 1);
                done++;
            }
            ending = howItEnded(next, done == n);
            return done;
        }

        private int howItEnded(int next, boolean counted) {
            if (next == THROWN) {
                return BY_THROWING;
            }
            if (!program.isThere(next)) {
                return BY_ITSELF;
            }
            return counted ? BY_COUNT : OUTSIDE;
        }

        private boolean liesWithin(Statement s) {
            if (!s.known) {
                return false;
            }
            for (int place = 0; place < PLACES; place++) {
                if (!s.sets[place].has(values[place])) {
                    return false;
                }
            }
            return true;
        }

        private int anyOf(int low, int high) {
            link = link * LINK_FACTOR % LINK_MODULUS;
            long many = (long) high - low + 1;
            return many > 1 ? (int) (low + link % many) : low;
        }

        /** The number of the STATEMENT that is next, or THROWN. */
        private int doOne(Statement s, int behind) {
            if (s.kind == STOP) {
                return NOT_THERE;
            }
            if (s.kind == JUMP) {
                return s.a;
            }
            if (isCondition(s.kind)) {
                return isSo(s.kind - FIRST_CONDITION, values[s.a], values[s.b]) ? s.c : behind;
            }
            if (s.kind == QUOTIENT || s.kind == REST) {
                int divisor = values[s.c];
                if (divisor == 0) {
                    return THROWN;
                }
                values[s.a] = s.kind == QUOTIENT ? values[s.b] / divisor : values[s.b] % divisor;
                return behind;
            }
            values[s.a] = resultOf(s);
            return behind;
        }

        private int resultOf(Statement s) {
            switch (s.kind) {
                case NUMBER:
                    return s.b;
                case COPY:
                    return values[s.b];
                case SUM:
                    return values[s.b] + values[s.c];
                case DIFFERENCE:
                    return values[s.b] - values[s.c];
                case PRODUCT:
                    return values[s.b] * values[s.c];
                case BITS:
                    return values[s.b] & s.c;
                case MOVED:
                    return values[s.b] >> s.c;
                case CUT:
                    return cut(values[s.b], s.c);
                default:
                    return anyOf(s.b, s.c);
            }
        }

        private static int cut(int number, int how) {
            switch (how) {
                case CUT_TO_8_BITS:
                    return (byte) number;
                case CUT_TO_16_BITS:
                    return (short) number;
                default:
                    return (char) number;
            }
        }

        private static boolean isSo(int relation, int x, int y) {
            switch (relation) {
                case LESS:
                    return x < y;
                case AT_MOST:
                    return x <= y;
                case EQUAL:
                    return x == y;
                case OTHER:
                    return x != y;
                case AT_LEAST:
                    return x >= y;
                case MORE:
                    return x > y;
                default:
                    // Moved by LEAST, numbers with sign stand in the order of those without.
                    return x + LEAST < y + LEAST;
            }
        }
    }
}
