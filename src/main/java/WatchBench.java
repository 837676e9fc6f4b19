import java.util.Arrays;

/**
 * A bench that tells what ails a watch from its rates alone; ../shared/DOC.md says what each act promises.
 * All rows are made once, with the object, and used again: a run of calls makes nothing more.
 */
public final class WatchBench {
    private static final long LOW = -9000000000000000000L;

    /* The findings, by how far they lie below LOW; 0 is no finding. */
    private static final int BEYOND = 1;
    private static final int NONE = 2;
    private static final int KIND = 3;
    private static final int SIZE = 4;
    private static final int FULL = 5;
    private static final int OPEN = 6;
    private static final int STALE = 7;

    private static final int STATES = 36;
    private static final int STATES_A_POSITION = 6;
    private static final int POSITIONS = 6;
    private static final int MAX_CAUSES = 8;
    private static final int MAX_READINGS = 20;
    private static final int MAX_MENDS = 8;
    private static final int MAX_DAYS = 60;
    private static final int MAX_TOLD = 16;
    private static final int MAX_IN_MODEL = 4;
    private static final int MAX_FEW = 3;
    private static final int MAX_RATE = 300;
    private static final int MAX_BY = 200;
    private static final int MAX_STEPS = 3;
    private static final int MAX_SPAN = 1000;
    private static final int MAX_GAIN = 1000;
    private static final int TOO_MANY_TOLD = 100;

    private final Stock stock;
    private final Stock kept;
    private boolean anyKept;
    private final Sheets sheets;
    private final Products products;
    private final Sizes sizes;
    private int looseSet;
    private final MendSearch mendSearch;
    private final Trial trial;
    private final int[] told;
    private int waiting;
    private final int[] refusals;

    public WatchBench() {
        stock = new Stock();
        kept = new Stock();
        sheets = new Sheets();
        products = new Products();
        sizes = new Sizes();
        mendSearch = new MendSearch();
        trial = new Trial();
        told = new int[MAX_TOLD];
        refusals = new int[STALE + 1];
    }

    /* ---- causes, readings ---- */

    public long cause(int kind, int a, int b) {
        if (!Causes.allows(kind, a, b)) {
            return refuse(BEYOND);
        }
        if (stock.causes.isFull()) {
            return refuse(FULL);
        }
        sizes.growStale();
        return stock.causes.append(kind, a, b);
    }

    public long shows(int c, int state) {
        if (!stock.causes.has(c) || !isState(state)) {
            return refuse(BEYOND);
        }
        return stock.causes.shownIn(c, state);
    }

    public long as(int c, int kind) {
        if (!stock.causes.has(c) || !Causes.isKind(kind)) {
            return refuse(BEYOND);
        }
        if (!stock.causes.isOf(c, kind)) {
            return refuse(KIND);
        }
        return stock.causes.numberA(c);
    }

    public long read(int state, int rate) {
        if (!isState(state) || !isRate(rate)) {
            return refuse(BEYOND);
        }
        if (stock.readings.isFull()) {
            return refuse(FULL);
        }
        sizes.growStale();
        return stock.readings.append(state, rate);
    }

    public long drop(int i) {
        if (!stock.readings.has(i)) {
            return refuse(BEYOND);
        }
        sizes.growStale();
        stock.readings.removeAt(i);
        return stock.readings.length();
    }

    public long reading(int i, int what) {
        if (!stock.readings.has(i) || !Numbers.within(what, 0, 1)) {
            return refuse(BEYOND);
        }
        return what == 0 ? stock.readings.first(i) : stock.readings.second(i);
    }

    public long sheet(int s, int n) {
        if (!Sheets.isSheet(s)) {
            return refuse(BEYOND);
        }
        if (n < Sheets.MISSING) {
            return refuse(SIZE);
        }
        if (n > STATES) {
            return refuse(BEYOND);
        }
        sheets.layOut(s, n);
        return n;
    }

    public long put(int s, int i, int v) {
        if (!Sheets.isSheet(s)) {
            return refuse(BEYOND);
        }
        if (sheets.isMissing(s)) {
            return refuse(NONE);
        }
        if (!sheets.hasPlace(s, i)) {
            return refuse(BEYOND);
        }
        return sheets.write(s, i, v);
    }

    public long lay(int s, int n) {
        int why = whyNoLaying(s, n);
        if (why != 0) {
            return refuse(why);
        }
        sizes.growStale();
        for (int i = 0; i < n; i++) {
            if (sheets.wasRead(s, i)) {
                stock.readings.append(i, sheets.rateAt(s, i));
            }
        }
        return stock.readings.length();
    }

    private int whyNoLaying(int s, int n) {
        if (!Sheets.isSheet(s)) {
            return BEYOND;
        }
        if (sheets.isMissing(s)) {
            return NONE;
        }
        if (n < 0) {
            return SIZE;
        }
        if (n > sheets.placesOf(s) || !sheets.holdsRates(s, n)) {
            return BEYOND;
        }
        return stock.readings.length() + sheets.howManyRead(s, n) > MAX_READINGS ? FULL : 0;
    }

    /* ---- what is found ---- */

    public long find(int model) {
        if (!isModel(model)) {
            return refuse(BEYOND);
        }
        products.gather(stock);
        if (!products.solve(model)) {
            looseSet = products.looseOf(model);
            return refuse(OPEN);
        }
        sizes.take(model, products);
        return Integer.bitCount(model);
    }

    public long loose() {
        return looseSet;
    }

    public long size(int c, boolean below) {
        int why = whyNoSizes();
        if (why == 0 && !sizes.has(c)) {
            why = BEYOND;
        }
        if (why != 0) {
            return refuse(why);
        }
        return Numbers.lowest(sizes.above(c), sizes.below(), below);
    }

    public long left(int i, boolean below) {
        int why = whyNoSizes();
        if (why == 0 && !stock.readings.has(i)) {
            why = BEYOND;
        }
        if (why != 0) {
            return refuse(why);
        }
        long rate = stock.readings.second(i) * sizes.below();
        long above = rate - sizes.aboveIn(stock.readings.first(i), stock.causes);
        return Numbers.lowest(above, sizes.below(), below);
    }

    public long sum(boolean below) {
        int why = whyNoSizes();
        if (why != 0) {
            return refuse(why);
        }
        return Numbers.lowest(sizes.squares(), sizes.below(), below);
    }

    public long foretold(int state, boolean below) {
        int why = whyNoSizes();
        if (why == 0 && !isState(state)) {
            why = BEYOND;
        }
        if (why != 0) {
            return refuse(why);
        }
        return Numbers.lowest(sizes.aboveIn(state, stock.causes), sizes.below(), below);
    }

    public long model() {
        int why = whyNoSizes();
        if (why != 0) {
            return refuse(why);
        }
        return sizes.causeSet();
    }

    public long few(int k) {
        if (!Numbers.within(k, 1, MAX_FEW)) {
            return refuse(BEYOND);
        }
        if (stock.causes.length() == 0) {
            return refuse(NONE);
        }
        products.gather(stock);
        int all = (1 << stock.causes.length()) - 1;
        int chosen = products.fewestOf(all, k);
        if (chosen == 0 || !products.solve(chosen)) {
            looseSet = all;
            return refuse(OPEN);
        }
        sizes.take(chosen, products);
        return chosen;
    }

    public long doubt(int c, boolean most, boolean below) {
        int why = whyNoSizes();
        if (why == 0 && !sizes.has(c)) {
            why = BEYOND;
        }
        if (why != 0) {
            return refuse(why);
        }
        products.gather(stock);
        boolean any = false;
        long above = 0;
        long under = 1;
        for (int i = 0; i < stock.readings.length(); i++) {
            if (products.solveWithout(i, sizes.causeSet(), stock)) {
                long nextAbove = products.above(sizes.placeOf(c));
                long nextUnder = products.below();
                int order = Numbers.order(nextAbove, nextUnder, above, under);
                if (!any || (most ? order > 0 : order < 0)) {
                    above = nextAbove;
                    under = nextUnder;
                }
                any = true;
            }
        }
        return any ? Numbers.lowest(above, under, below) : refuse(OPEN);
    }

    public long spare() {
        int why = whyNoSizes();
        if (why != 0) {
            return refuse(why);
        }
        products.gather(stock);
        int spared = 0;
        for (int i = 0; i < stock.readings.length(); i++) {
            if (products.solveWithout(i, sizes.causeSet(), stock)) {
                spared++;
            }
        }
        return spared;
    }

    /* ---- mends, papers ---- */

    public long mend(int c, int by) {
        if (!stock.causes.has(c) || !Numbers.within(by, -MAX_BY, MAX_BY)) {
            return refuse(BEYOND);
        }
        if (stock.mends.isFull()) {
            return refuse(FULL);
        }
        return stock.mends.append(c, by);
    }

    public long span(int state, int from, int to) {
        boolean rates = Numbers.within(from, -MAX_SPAN, MAX_SPAN) && Numbers.within(to, -MAX_SPAN, MAX_SPAN);
        if (!isState(state) || !rates) {
            return refuse(BEYOND);
        }
        stock.spans.write(state, from, to);
        return stock.spans.has(state) ? 1 : 0;
    }

    public long behind(int state, int mend, int steps, int other, int more, boolean below) {
        int why = whyNoSizes();
        boolean mends = stock.mends.has(mend) && stock.mends.has(other);
        if (why == 0 && !(isState(state) && mends && isSteps(steps) && isSteps(more))) {
            why = BEYOND;
        }
        if (why != 0) {
            return refuse(why);
        }
        long above = sizes.aboveIn(state, stock.causes);
        above += steps * sizes.stepIn(state, mend, stock);
        above += more * sizes.stepIn(state, other, stock);
        return Numbers.lowest(above, sizes.below(), below);
    }

    public long worst(boolean below) {
        int why = whyNoPaper();
        if (why != 0) {
            return refuse(why);
        }
        long greatest = 0;
        for (int state = 0; state < STATES; state++) {
            if (stock.spans.has(state)) {
                greatest = Math.max(greatest, Math.abs(sizes.aboveIn(state, stock.causes)));
            }
        }
        return Numbers.lowest(greatest, sizes.below(), below);
    }

    public long best() {
        int why = whyNoPaper();
        if (why != 0) {
            return refuse(why);
        }
        mendSearch.prepare(stock, sizes);
        return mendSearch.run();
    }

    public long paper() {
        int why = whyNoPaper();
        if (why != 0) {
            return refuse(why);
        }
        for (int state = 0; state < STATES; state++) {
            if (stock.spans.has(state)) {
                long above = sizes.aboveIn(state, stock.causes);
                if (!stock.spans.holds(state, above, sizes.below())) {
                    return state - 1000;
                }
            }
        }
        return 1;
    }

    /* ---- trials ---- */

    public long day(int state, int gain) {
        if (!isState(state) || !Numbers.within(gain, -MAX_GAIN, MAX_GAIN)) {
            return refuse(BEYOND);
        }
        if (trial.days.isFull()) {
            return refuse(FULL);
        }
        return trial.days.append(state, gain) + 1;
    }

    public long anew() {
        int days = trial.days.length();
        trial.days.clear();
        return days;
    }

    public long mean(int position, boolean below) {
        if (!Trial.isPlace(position)) {
            return refuse(BEYOND);
        }
        int days = trial.daysAt(position);
        if (days == 0) {
            return refuse(OPEN);
        }
        return Numbers.lowest(trial.gainAt(position), days, below);
    }

    public long change(int position) {
        if (!Trial.isPlace(position)) {
            return refuse(BEYOND);
        }
        if (trial.daysAt(position) < 2) {
            return refuse(OPEN);
        }
        return trial.greatestTurnAt(position);
    }

    /* ---- what is told ---- */

    public long tell(int v) {
        if (waiting >= MAX_TOLD) {
            return refuse(FULL);
        }
        told[waiting] = v;
        waiting++;
        return waiting;
    }

    public long check() {
        int numbers = waiting;
        waiting = 0;
        int why = whyNoSizes();
        if (why != 0) {
            return refuse(why);
        }
        return judge(numbers);
    }

    private int judge(int numbers) {
        int place = 0;
        int next = 0;
        for (int c = 0; c < MAX_CAUSES; c++) {
            if (sizes.has(c)) {
                if (next + 1 >= numbers || next + 1 >= MAX_TOLD || !sizes.isSize(c, told[next], told[next + 1])) {
                    return 1 + place;
                }
                place++;
                next += 2;
            }
        }
        return next < numbers ? TOO_MANY_TOLD : 0;
    }

    public long keep() {
        kept.copyFrom(stock);
        anyKept = true;
        return 1;
    }

    public long back() {
        if (!anyKept) {
            return refuse(NONE);
        }
        stock.copyFrom(kept);
        sizes.forget();
        return 1;
    }

    public long count(int what) {
        switch (what) {
            case 0:
                return stock.causes.length();
            case 1:
                return stock.readings.length();
            case 2:
                return stock.mends.length();
            case 3:
                return stock.spans.howMany();
            case 4:
                return trial.days.length();
            case 5:
                return waiting;
            default:
                return refuse(BEYOND);
        }
    }

    public long found(int k) {
        if (!Numbers.within(k, BEYOND, STALE)) {
            return refuse(BEYOND);
        }
        return refusals[k];
    }

    /* ---- what the acts share ---- */

    private long refuse(int finding) {
        if (Numbers.within(finding, BEYOND, STALE)) {
            refusals[finding]++;
        }
        return LOW - finding;
    }

    private int whyNoSizes() {
        if (!sizes.areFound()) {
            return NONE;
        }
        return sizes.areStale() ? STALE : 0;
    }

    private int whyNoPaper() {
        int why = whyNoSizes();
        return why == 0 && stock.spans.howMany() == 0 ? OPEN : why;
    }

    private boolean isModel(int model) {
        int all = (1 << stock.causes.length()) - 1;
        return (model & ~all) == 0 && Numbers.within(Integer.bitCount(model), 1, MAX_IN_MODEL);
    }

    private static boolean isState(int state) {
        return Numbers.within(state, 0, STATES - 1);
    }

    private static boolean isRate(int rate) {
        return Numbers.within(rate, -MAX_RATE, MAX_RATE);
    }

    private static boolean isSteps(int steps) {
        return Numbers.within(steps, -MAX_STEPS, MAX_STEPS);
    }

    /** Whole numbers and fractions. */
    private static final class Numbers {
        /* Euclid's steps for two longs stay below this (the longest chain is that of Fibonacci's numbers). */
        private static final int MAX_EUCLID = 100;

        static boolean within(int v, int from, int to) {
            return v >= from && v <= to;
        }

        /** What is above, or below, of a fraction in lowest terms; under is more than 0. */
        static long lowest(long above, long under, boolean below) {
            long part = below ? under : above;
            long common = commonOf(Math.abs(above), under);
            return common > 1 ? part / common : part;
        }

        private static long commonOf(long a, long b) {
            for (int i = 0; i < MAX_EUCLID && b != 0; i++) {
                long rest = a % b;
                a = b;
                b = rest;
            }
            return a;
        }

        /**
         * Below, at or above 0 as a / b is less than, alike or more than c / d (b, d more than 0). The parts are
         * compared whole part by whole part, as crosswise products can be too great for a long.
         */
        static int order(long a, long b, long c, long d) {
            for (int i = 0; i < MAX_EUCLID && b > 0 && d > 0; i++) {
                long wholeA = Math.floorDiv(a, b);
                long wholeC = Math.floorDiv(c, d);
                if (wholeA != wholeC) {
                    return Long.compare(wholeA, wholeC);
                }
                long restA = a - wholeA * b;
                long restC = c - wholeC * d;
                if (restA == 0 || restC == 0) {
                    return Long.compare(restA, restC);
                }
                // restA / b against restC / d goes as d / restC against b / restA
                a = d;
                c = b;
                b = restC;
                d = restA;
            }
            return 0;
        }
    }

    /** Pairs of numbers in the order in which they came, up to a limit. */
    private static final class Pairs {
        private final int[] firsts;
        private final int[] seconds;
        private int length;

        Pairs(int limit) {
            int places = Math.max(0, limit);
            firsts = new int[places];
            seconds = new int[places];
        }

        int length() {
            return length;
        }

        boolean has(int i) {
            return i >= 0 && i < length;
        }

        boolean isFull() {
            return length >= firsts.length;
        }

        int first(int i) {
            return has(i) ? firsts[i] : 0;
        }

        int second(int i) {
            return has(i) ? seconds[i] : 0;
        }

        /** Its number; a full row takes nothing more. */
        int append(int first, int second) {
            if (!isFull()) {
                firsts[length] = first;
                seconds[length] = second;
                length++;
            }
            return length - 1;
        }

        void removeAt(int i) {
            if (has(i)) {
                length--;
                for (int j = i; j < length; j++) {
                    firsts[j] = firsts[j + 1];
                    seconds[j] = seconds[j + 1];
                }
            }
        }

        void clear() {
            length = 0;
        }

        void copyFrom(Pairs other) {
            clear();
            for (int i = 0; i < other.length; i++) {
                append(other.firsts[i], other.seconds[i]);
            }
        }
    }

    /** The causes and what they show. */
    private static final class Causes {
        private static final int PLAIN = 0;
        private static final int POISE = 1;
        private static final int HAIR = 2;
        private static final int OIL = 3;
        private static final int WARM = 4;
        private static final int BEAT = 5;
        /* The kind over each kind; PLAIN is over all and stands over itself. */
        private static final int[] OVER = {PLAIN, PLAIN, PLAIN, HAIR, PLAIN, POISE};
        private static final int FIRST_HANGING = 2;
        private static final int QUARTERS = 4;
        private static final int WARMTHS = 3;
        private static final int COLD = 0;
        private static final int MILD = 1;

        private final int[] kinds = new int[MAX_CAUSES];
        private final Pairs numbers = new Pairs(MAX_CAUSES);

        static boolean isKind(int kind) {
            return Numbers.within(kind, PLAIN, BEAT);
        }

        static boolean allows(int kind, int a, int b) {
            switch (kind) {
                case PLAIN:
                    return true;
                case POISE:
                case BEAT:
                    return Numbers.within(a, 0, 3) && Numbers.within(b, 1, 3);
                case HAIR:
                case OIL:
                case WARM:
                    return Numbers.within(a, -2, 2) && Numbers.within(b, -2, 2);
                default:
                    return false;
            }
        }

        int length() {
            return numbers.length();
        }

        boolean has(int c) {
            return numbers.has(c);
        }

        boolean isFull() {
            return numbers.isFull();
        }

        int append(int kind, int a, int b) {
            if (isFull() || !isKind(kind)) {
                return length() - 1;
            }
            kinds[length()] = kind;
            return kind == PLAIN ? numbers.append(0, 0) : numbers.append(a, b);
        }

        boolean isOf(int c, int kind) {
            if (!has(c)) {
                return false;
            }
            int own = kinds[c];
            for (int up = 0; up < OVER.length && own != kind && isKind(own); up++) {
                own = OVER[own];
            }
            return own == kind;
        }

        int numberA(int c) {
            return numbers.first(c);
        }

        int shownIn(int c, int state) {
            if (!has(c) || !isState(state)) {
                return 0;
            }
            int a = numbers.first(c);
            int b = numbers.second(c);
            int position = state / STATES_A_POSITION;
            boolean wound = state % STATES_A_POSITION < WARMTHS;
            int warmth = state % WARMTHS;
            switch (kinds[c]) {
                case POISE:
                    return hanging(position, a, b, 0);
                case HAIR:
                    return wound ? a : b;
                case OIL:
                    return (wound ? a : b) + (warmth == COLD ? 1 : 0);
                case WARM:
                    return a * (warmth - MILD) + (warmth == MILD ? b : 0);
                case BEAT:
                    return hanging(position, a, b, 1);
                default:
                    return 1;
            }
        }

        private static int hanging(int position, int a, int b, int aside) {
            if (position < FIRST_HANGING) {
                return 0;
            }
            int quartersOn = (position - FIRST_HANGING - a + QUARTERS) % QUARTERS;
            if (quartersOn == 0) {
                return b;
            }
            return quartersOn == 2 ? -b : aside;
        }

        void copyFrom(Causes other) {
            System.arraycopy(other.kinds, 0, kinds, 0, MAX_CAUSES);
            numbers.copyFrom(other.numbers);
        }
    }

    /** The paper: a span of rates for some states. */
    private static final class Spans {
        private final boolean[] there = new boolean[STATES];
        private final int[] froms = new int[STATES];
        private final int[] tos = new int[STATES];

        boolean has(int state) {
            return isState(state) && there[state];
        }

        void write(int state, int from, int to) {
            if (isState(state)) {
                there[state] = from <= to;
                froms[state] = from;
                tos[state] = to;
            }
        }

        int howMany() {
            int many = 0;
            for (boolean one : there) {
                if (one) {
                    many++;
                }
            }
            return many;
        }

        boolean holds(int state, long above, long below) {
            return has(state) && froms[state] * below <= above && above <= tos[state] * below;
        }

        void copyFrom(Spans other) {
            for (int state = 0; state < STATES; state++) {
                there[state] = other.there[state];
                froms[state] = other.froms[state];
                tos[state] = other.tos[state];
            }
        }
    }

    /** All that keep() keeps. */
    private static final class Stock {
        final Causes causes = new Causes();
        /* state, rate */
        final Pairs readings = new Pairs(MAX_READINGS);
        /* cause, by how much a step */
        final Pairs mends = new Pairs(MAX_MENDS);
        final Spans spans = new Spans();

        void copyFrom(Stock other) {
            causes.copyFrom(other.causes);
            readings.copyFrom(other.readings);
            mends.copyFrom(other.mends);
            spans.copyFrom(other.spans);
        }
    }

    /** Sheets of rates by state, from which readings are laid. */
    private static final class Sheets {
        static final int MISSING = -1;
        private static final int SHEETS = 3;
        private static final int NOT_READ = -32768;

        private final int[] lengths = new int[SHEETS];
        private final short[][] rates = new short[SHEETS][STATES];

        Sheets() {
            Arrays.fill(lengths, MISSING);
        }

        static boolean isSheet(int s) {
            return Numbers.within(s, 0, SHEETS - 1);
        }

        int placesOf(int s) {
            return isSheet(s) ? lengths[s] : MISSING;
        }

        boolean isMissing(int s) {
            return placesOf(s) == MISSING;
        }

        boolean hasPlace(int s, int i) {
            return i >= 0 && i < placesOf(s) && i < STATES;
        }

        void layOut(int s, int n) {
            if (isSheet(s) && Numbers.within(n, MISSING, STATES)) {
                lengths[s] = n;
                Arrays.fill(rates[s], (short) NOT_READ);
            }
        }

        int write(int s, int i, int v) {
            if (hasPlace(s, i)) {
                rates[s][i] = (short) v;
            }
            return rateAt(s, i);
        }

        int rateAt(int s, int i) {
            return hasPlace(s, i) ? rates[s][i] : NOT_READ;
        }

        boolean wasRead(int s, int i) {
            return rateAt(s, i) != NOT_READ;
        }

        int howManyRead(int s, int n) {
            int many = 0;
            for (int i = 0; i < n; i++) {
                if (wasRead(s, i)) {
                    many++;
                }
            }
            return many;
        }

        /** Whether the first n places, but for those not read, are rates that a reading may have. */
        boolean holdsRates(int s, int n) {
            for (int i = 0; i < n; i++) {
                if (wasRead(s, i) && !isRate(rateAt(s, i))) {
                    return false;
                }
            }
            return true;
        }
    }

    /**
     * Least squares in whole numbers: the sums, over the readings, of the products of what any two causes show, and
     * the rate as one column more. A model's sizes are quotients of minors of this table (Cramer's rule), and the sum
     * of the squares left is one too. Minors are built without dividing, and each that is told is far within a long:
     * four columns of at most 20 threes and a column of at most 20 rates of 300 make less than 2 * 10 to the 15.
     */
    private static final class Products {
        private static final int RATE = MAX_CAUSES;
        private static final int WIDTH = MAX_CAUSES + 1;

        private final long[] shown = new long[WIDTH];
        private final long[] table = new long[WIDTH * WIDTH];
        /* The model's causes, from the least on, then RATE. */
        private final int[] columns = new int[MAX_IN_MODEL + 1];
        private int causesIn;
        /* By set of columns: the minor of these and of as many first rows. */
        private final long[] minors = new long[1 << (MAX_IN_MODEL + 1)];

        void gather(Stock stock) {
            Arrays.fill(table, 0);
            for (int i = 0; i < stock.readings.length(); i++) {
                weigh(i, stock, 1);
            }
        }

        private void weigh(int i, Stock stock, int times) {
            int state = stock.readings.first(i);
            for (int c = 0; c < MAX_CAUSES; c++) {
                shown[c] = stock.causes.shownIn(c, state);
            }
            shown[RATE] = stock.readings.second(i);
            for (int row = 0; row < WIDTH; row++) {
                long part = times * shown[row];
                for (int column = 0; part != 0 && column < WIDTH; column++) {
                    table[row * WIDTH + column] += part * shown[column];
                }
            }
        }

        /** Whether the model is firm by the readings gathered; if so above(), below() and squares() tell of it. */
        boolean solve(int model) {
            pickColumns(model);
            minors[0] = 1;
            int sets = 1 << (causesIn + 1);
            for (int set = 1; set < sets && set < minors.length; set++) {
                minors[set] = minorOf(set);
            }
            return below() != 0;
        }

        /** As solve, with one of the readings gathered left out. */
        boolean solveWithout(int i, int model, Stock stock) {
            weigh(i, stock, -1);
            boolean firm = solve(model);
            weigh(i, stock, 1);
            return firm;
        }

        private void pickColumns(int model) {
            causesIn = 0;
            for (int c = 0; c < MAX_CAUSES && causesIn < MAX_IN_MODEL; c++) {
                if ((model >> c & 1) != 0) {
                    columns[causesIn] = c;
                    causesIn++;
                }
            }
            columns[causesIn] = RATE;
        }

        /** A minor from those with a column and the last row less. */
        private long minorOf(int set) {
            int members = Integer.bitCount(set);
            int row = columns[members - 1];
            long sign = members % 2 == 0 ? -1 : 1;
            long total = 0;
            for (int j = 0; j <= causesIn; j++) {
                int one = 1 << j;
                if ((set & one) != 0) {
                    total += sign * table[row * WIDTH + columns[j]] * minors[set ^ one];
                    sign = -sign;
                }
            }
            return total;
        }

        long below() {
            return minors[(1 << causesIn) - 1];
        }

        long squares() {
            return minors[(1 << (causesIn + 1)) - 1];
        }

        /** What is above below() in the size of the model's cause at a place (from 0 on). */
        long above(int place) {
            if (place < 0 || place >= causesIn) {
                return 0;
            }
            long minor = minors[((1 << (causesIn + 1)) - 1) ^ (1 << place)];
            // Cramer's rule wants the rates where the cause's column stood, not behind the others
            return (causesIn - 1 - place) % 2 == 0 ? minor : -minor;
        }

        /** A cause isn't loose just if every greatest firm part of the model has it. */
        int looseOf(int model) {
            int most = 0;
            int loosened = model;
            for (int part = 1; part <= model && part < 1 << MAX_CAUSES; part++) {
                int causes = Integer.bitCount(part);
                if ((part & ~model) == 0 && causes >= most && solve(part)) {
                    int others = model & ~part;
                    loosened = causes > most ? others : loosened | others;
                    most = causes;
                }
            }
            return loosened;
        }

        /** Of the firm parts of all with at most k causes that which leaves least; 0 if none is firm. */
        int fewestOf(int all, int k) {
            int chosen = 0;
            long squares = 0;
            long under = 1;
            for (int causes = 1; causes <= k && causes <= MAX_FEW; causes++) {
                for (int part = 1; part <= all && part < 1 << MAX_CAUSES; part++) {
                    if (Integer.bitCount(part) == causes && solve(part)) {
                        if (chosen == 0 || Numbers.order(squares(), below(), squares, under) < 0) {
                            chosen = part;
                            squares = squares();
                            under = below();
                        }
                    }
                }
            }
            return chosen;
        }
    }

    /** The sizes found, all above one and the same number. */
    private static final class Sizes {
        private boolean areThere;
        private boolean stale;
        private int causeSet;
        private final long[] aboves = new long[MAX_CAUSES];
        private long below = 1;
        private long squares;

        void take(int model, Products products) {
            areThere = true;
            stale = false;
            causeSet = model;
            below = products.below();
            squares = products.squares();
            for (int c = 0; c < MAX_CAUSES; c++) {
                aboves[c] = has(c) ? products.above(placeOf(c)) : 0;
            }
        }

        void forget() {
            areThere = false;
        }

        void growStale() {
            stale = true;
        }

        boolean areFound() {
            return areThere;
        }

        boolean areStale() {
            return stale;
        }

        int causeSet() {
            return causeSet;
        }

        boolean has(int c) {
            return c >= 0 && c < MAX_CAUSES && (causeSet >> c & 1) != 0;
        }

        /** How many causes of the model have a lesser number. */
        int placeOf(int c) {
            return has(c) ? Integer.bitCount(causeSet & ((1 << c) - 1)) : 0;
        }

        long above(int c) {
            return has(c) ? aboves[c] : 0;
        }

        long below() {
            return below;
        }

        long squares() {
            return squares;
        }

        /** What is above below() in what is foretold in a state. */
        long aboveIn(int state, Causes causes) {
            long total = 0;
            for (int c = 0; c < MAX_CAUSES; c++) {
                if (has(c)) {
                    total += aboves[c] * causes.shownIn(c, state);
                }
            }
            return total;
        }

        /** What one step of a mend adds to aboveIn(). */
        long stepIn(int state, int mend, Stock stock) {
            int c = stock.mends.first(mend);
            return has(c) ? below * stock.mends.second(mend) * stock.causes.shownIn(c, state) : 0;
        }

        boolean isSize(int c, int toldAbove, int toldBelow) {
            long top = toldAbove;
            long bottom = toldBelow;
            if (bottom < 0) {
                top = -top;
                bottom = -bottom;
            }
            return bottom != 0 && has(c) && Numbers.order(top, bottom, aboves[c], below) == 0;
        }
    }

    /** Seeks the one or two mends that make WORST least; what is found lies above one number, so only that counts. */
    private static final class MendSearch {
        private static final int NO_MEND = -1;

        /* What is foretold, and what one step of each mend adds, in the states that have a span. */
        private final long[] rates = new long[STATES];
        private final long[] steps = new long[MAX_MENDS * STATES];
        private int places;
        private int mends;
        private long least;
        private long answer;

        void prepare(Stock stock, Sizes sizes) {
            places = 0;
            mends = Math.min(stock.mends.length(), MAX_MENDS);
            for (int state = 0; state < STATES; state++) {
                if (stock.spans.has(state)) {
                    rates[places] = sizes.aboveIn(state, stock.causes);
                    for (int m = 0; m < mends; m++) {
                        steps[m * STATES + places] = sizes.stepIn(state, m, stock);
                    }
                    places++;
                }
            }
        }

        /** Tries are made in the order in which alike ones are preferred, so a later one must be less. */
        long run() {
            least = Long.MAX_VALUE;
            tryOut(NO_MEND, 0, NO_MEND, 0);
            for (int m = 0; m < mends; m++) {
                for (int s = -MAX_STEPS; s <= MAX_STEPS; s++) {
                    if (s != 0) {
                        tryOut(m, s, NO_MEND, 0);
                    }
                }
            }
            for (int m = 0; m < mends; m++) {
                for (int s = -MAX_STEPS; s <= MAX_STEPS; s++) {
                    if (s != 0) {
                        trySecond(m, s);
                    }
                }
            }
            return answer;
        }

        private void trySecond(int m, int s) {
            for (int n = m + 1; n < mends; n++) {
                for (int t = -MAX_STEPS; t <= MAX_STEPS; t++) {
                    if (t != 0) {
                        tryOut(m, s, n, t);
                    }
                }
            }
        }

        private void tryOut(int m, int s, int n, int t) {
            int first = Math.max(0, m) * STATES;
            int second = Math.max(0, n) * STATES;
            long greatest = 0;
            for (int i = 0; i < places; i++) {
                long rate = Math.abs(rates[i] + s * steps[first + i] + t * steps[second + i]);
                if (rate >= least) {
                    return;
                }
                greatest = Math.max(greatest, rate);
            }
            least = greatest;
            answer = 10000 * (m + 1) + 1000 * (s + 3) + 10 * (n + 1) + (t + 3);
        }
    }

    /** The days of a trial. */
    private static final class Trial {
        private static final int ALL = -1;

        /* state, gain */
        final Pairs days = new Pairs(MAX_DAYS);

        static boolean isPlace(int position) {
            return Numbers.within(position, ALL, POSITIONS - 1);
        }

        private boolean isAt(int i, int position) {
            return position == ALL || days.first(i) / STATES_A_POSITION == position;
        }

        int daysAt(int position) {
            int many = 0;
            for (int i = 0; i < days.length(); i++) {
                if (isAt(i, position)) {
                    many++;
                }
            }
            return many;
        }

        int gainAt(int position) {
            int total = 0;
            for (int i = 0; i < days.length(); i++) {
                if (isAt(i, position)) {
                    total += days.second(i);
                }
            }
            return total;
        }

        int greatestTurnAt(int position) {
            int greatest = 0;
            boolean any = false;
            int last = 0;
            for (int i = 0; i < days.length(); i++) {
                if (isAt(i, position)) {
                    int gain = days.second(i);
                    if (any) {
                        greatest = Math.max(greatest, Math.abs(gain - last));
                    }
                    any = true;
                    last = gain;
                }
            }
            return greatest;
        }
    }
}
