import java.lang.reflect.Method;
import java.math.BigInteger;

/** The document's part 'Terms', a test for each sentence (the two on refused acts are in RefusalsTest). */
public final class TermsTest {
    public static void main(String[] args) throws IllegalAccessException {
        Sentences.run(TermsTest.class);
    }

    /* ---- findings ---- */

    @Sentence(promise = 0, says = "FINDINGS are answers below -9 * 10 to the 18: LOW is -9000000000000000000; LOW - 1 BEYOND,"
        + " LOW - 2 NONE, LOW - 3 KIND, LOW - 4 SIZE, LOW - 5 FULL, LOW - 6 OPEN, LOW - 7 STALE.")
    static void findingsAreNumbersBelowLow() {
        Due.is("BEYOND", new WatchBench().read(36, 0), -9000000000000000001L);
        Due.is("NONE", new WatchBench().model(), -9000000000000000002L);
        Due.is("KIND", Benches.plain(0).as(0, 1), -9000000000000000003L);
        Due.is("SIZE", new WatchBench().sheet(0, -2), -9000000000000000004L);
        Due.is("FULL", Benches.full().tell(0), -9000000000000000005L);
        Due.is("OPEN", new WatchBench().mean(-1, false), -9000000000000000006L);
        WatchBench stale = Benches.plain(0);
        stale.read(0, 0);
        Due.is("STALE", stale.model(), -9000000000000000007L);
    }

    @Sentence(promise = 0, says = "All acts answer longs.")
    static void allActsAnswerLongs() {
        for (Method method : WatchBench.class.getMethods()) {
            if (method.getDeclaringClass() == WatchBench.class) {
                Due.holds(method.getName() + " answers a long", method.getReturnType() == long.class);
            }
        }
    }

    /* ---- 1: states, causes ---- */

    @Sentence(promise = 0, says = "STATES 0 .. 35: position p (0 dial up, 1 dial down, 2 .. 5 hanging, each a quarter on from"
        + " the one ahead), winding v (0 wound, 1 nearly run down) and warmth w (0 cold, 1 mild, 2 warm): the state's number"
        + " is 6 p + 3 v + w.")
    static void statesAreNumbered() {
        WatchBench x = new WatchBench();
        x.cause(2, 1, 2);
        x.cause(4, 1, 2);
        for (int a = 0; a < 4; a++) {
            x.cause(1, a, 1);
        }
        for (int state = 0; state < 36; state++) {
            Due.is("winding of " + state, x.shows(0, state), state % 6 < 3 ? 1 : 2);
            Due.is("warmth of " + state, x.shows(1, state), new int[] {-1, 2, 1}[state % 3]);
            for (int a = 0; a < 4; a++) {
                boolean here = state >= 12 + 6 * a && state < 18 + 6 * a;
                Due.holds("position of " + state, here == (x.shows(2 + a, state) == 1));
            }
        }
        Due.takesJust("state", 0, 35, state -> x.shows(0, state));
    }

    @Sentence(promise = 0, says = "CAUSES 0, 1, .. (at most 8) are of a KIND and have two numbers a, b;"
        + " each SHOWS a whole number in each state:")
    static void atMostEightCauses() {
        WatchBench x = new WatchBench();
        for (int c = 0; c < 8; c++) {
            Due.is("cause", x.cause(c % 6, 1, 1), c);
        }
        Due.is("a ninth", x.cause(0, 0, 0), Due.FULL);
        for (int c = 0; c < 8; c++) {
            for (int state = 0; state < 36; state += 5) {
                Due.holds(c + " shows something in " + state, Math.abs(x.shows(c, state)) <= 3);
            }
        }
    }

    private interface Shown {
        int in(int p, boolean wound, int w);
    }

    private static void showsAs(int kind, int a, int b, Shown due) {
        WatchBench x = new WatchBench();
        x.cause(kind, a, b);
        for (int state = 0; state < 36; state++) {
            String what = "kind " + kind + ", a " + a + ", b " + b + " in state " + state;
            Due.is(what, x.shows(0, state), due.in(state / 6, state % 6 < 3, state % 3));
        }
    }

    @Sentence(promise = 0, says = "0 CAUSE (a, b are not looked at): 1.")
    static void causeShowsOne() {
        int[] any = {Integer.MIN_VALUE, -3, 0, 4, Integer.MAX_VALUE};
        for (int number : any) {
            showsAs(0, number, 0, (p, wound, w) -> 1);
            showsAs(0, 0, number, (p, wound, w) -> 1);
        }
    }

    /** What hangs: at the positions 2 .. 5, by turn, what is shown there. */
    private static void hangingShowsAs(int kind, int a, int b, int... turn) {
        showsAs(kind, a, b, (p, wound, w) -> p < 2 ? 0 : turn[p - 2]);
    }

    @Sentence(promise = 0, says = "1 POISE under CAUSE (a 0 .. 3, b 1 .. 3): b at position 2 + a, -b at the position opposite"
        + " (two quarters on), 0 at others.")
    static void poiseShows() {
        for (int b = 1; b <= 3; b++) {
            hangingShowsAs(1, 0, b, b, 0, -b, 0);
            hangingShowsAs(1, 1, b, 0, b, 0, -b);
            hangingShowsAs(1, 2, b, -b, 0, b, 0);
            hangingShowsAs(1, 3, b, 0, -b, 0, b);
        }
        Due.takesJust("a", 0, 3, a -> new WatchBench().cause(1, a, 1));
        Due.takesJust("b", 1, 3, b -> new WatchBench().cause(1, 0, b));
        WatchBench x = new WatchBench();
        x.cause(1, 2, 1);
        Due.is("under CAUSE", x.as(0, 0), 2);
    }

    @Sentence(promise = 0, says = "2 HAIR under CAUSE (a, b -2 .. 2): a wound, b run down.")
    static void hairShows() {
        for (int a = -2; a <= 2; a++) {
            for (int b = -2; b <= 2; b++) {
                int wind = a;
                int run = b;
                showsAs(2, a, b, (p, wound, w) -> wound ? wind : run);
            }
        }
        Due.takesJust("a", -2, 2, a -> new WatchBench().cause(2, a, 0));
        Due.takesJust("b", -2, 2, b -> new WatchBench().cause(2, 0, b));
        WatchBench x = new WatchBench();
        x.cause(2, 2, 1);
        Due.is("under CAUSE", x.as(0, 0), 2);
    }

    @Sentence(promise = 0, says = "3 OIL under HAIR (likewise): as HAIR, and 1 more when cold.")
    static void oilShows() {
        for (int a = -2; a <= 2; a++) {
            for (int b = -2; b <= 2; b++) {
                int wind = a;
                int run = b;
                showsAs(3, a, b, (p, wound, w) -> (wound ? wind : run) + (w == 0 ? 1 : 0));
            }
        }
        Due.takesJust("a", -2, 2, a -> new WatchBench().cause(3, a, 0));
        Due.takesJust("b", -2, 2, b -> new WatchBench().cause(3, 0, b));
        WatchBench x = new WatchBench();
        x.cause(3, 2, 1);
        Due.is("under HAIR", x.as(0, 2), 2);
        Due.is("and so under CAUSE", x.as(0, 0), 2);
    }

    @Sentence(promise = 0, says = "4 WARM under CAUSE (a, b -2 .. 2): a times (w - 1), and b more when mild.")
    static void warmShows() {
        for (int a = -2; a <= 2; a++) {
            for (int b = -2; b <= 2; b++) {
                int[] byWarmth = {-a, b, a};
                showsAs(4, a, b, (p, wound, w) -> byWarmth[w]);
            }
        }
        Due.takesJust("a", -2, 2, a -> new WatchBench().cause(4, a, 0));
        Due.takesJust("b", -2, 2, b -> new WatchBench().cause(4, 0, b));
        WatchBench x = new WatchBench();
        x.cause(4, 2, 1);
        Due.is("under CAUSE", x.as(0, 0), 2);
    }

    @Sentence(promise = 0, says = "5 BEAT under POISE (a 0 .. 3, b 1 .. 3): as POISE, but 1 at the two other hanging"
        + " positions.")
    static void beatShows() {
        for (int b = 1; b <= 3; b++) {
            hangingShowsAs(5, 0, b, b, 1, -b, 1);
            hangingShowsAs(5, 1, b, 1, b, 1, -b);
            hangingShowsAs(5, 2, b, -b, 1, b, 1);
            hangingShowsAs(5, 3, b, 1, -b, 1, b);
        }
        Due.takesJust("a", 0, 3, a -> new WatchBench().cause(5, a, 1));
        Due.takesJust("b", 1, 3, b -> new WatchBench().cause(5, 0, b));
        WatchBench x = new WatchBench();
        x.cause(5, 2, 1);
        Due.is("under POISE", x.as(0, 1), 2);
        Due.is("and so under CAUSE", x.as(0, 0), 2);
    }

    /* ---- 2: readings, models ---- */

    @Sentence(promise = 0, says = "READINGS 0, 1, .. (at most 20) have a state and a RATE (-300 .. 300 tenths);")
    static void atMostTwentyReadings() {
        WatchBench x = new WatchBench();
        for (int i = 0; i < 20; i++) {
            Due.is("reading", x.read(i, i % 2 == 0 ? -300 : 300), i);
        }
        Due.is("a twenty-first", x.read(20, 0), Due.FULL);
        Due.is("the last one's state", x.reading(19, 0), 19);
        Due.is("the last one's rate", x.reading(19, 1), 300);
        Due.takesJust("rate", -300, 300, rate -> new WatchBench().read(0, rate));
    }

    @Sentence(promise = 0, says = "a later one may be of the same state.")
    static void laterReadingsOfTheSameState() {
        WatchBench x = Benches.plain(10, 13);
        Due.is("the first", x.reading(0, 1), 10);
        Due.is("the later", x.reading(1, 1), 13);
        Due.is("both count", x.size(0, false), x.size(0, true), 23, 2);
        Due.is("what is left of the first", x.left(0, false), x.left(0, true), -3, 2);
    }

    @Sentence(promise = 0, says = "A MODEL is a set of one to four causes (as bits).")
    static void modelsOfOneToFourCauses() {
        WatchBench x = Benches.full();
        int[] sets = {0b1, 0b10000000, 0b11, 0b101010, 0b10001001, 0b10111};
        int[] due = {1, 1, 2, 3, 3, 4};
        for (int i = 0; i < sets.length; i++) {
            long answer = x.find(sets[i]);
            Due.holds("a set of " + due[i] + " is a model", answer == due[i] || answer == Due.OPEN);
        }
        Due.is("no cause", x.find(0), Due.BEYOND);
        Due.is("five causes", x.find(0b11111), Due.BEYOND);
    }

    @Sentence(promise = 0, says = "SIZES of a model are numbers, one for each of its causes; what it FORETELLS in a state is the"
        + " sum of what its causes show there times their sizes; what is LEFT of a reading is its rate less that.")
    static void sizesForetellAndLeave() {
        WatchBench x = Benches.foundWatch();
        for (int state = 0; state < 36; state++) {
            long twice = 2 * 33 * x.shows(0, state) + 35 * x.shows(1, state) + 2 * 13 * x.shows(2, state);
            Due.is("foretold in " + state, x.foretold(state, false), twice / 2);
        }
        for (int i = 0; i < 5; i++) {
            long foretold = x.foretold((int) x.reading(i, 0), false);
            Due.is("left of " + i, x.left(i, false), x.reading(i, 1) - foretold);
        }
    }

    @Sentence(promise = 0, says = "A model is FIRM by some readings if no two unlike rows of sizes foretell alike in all of their"
        + " states.")
    static void firmModels() {
        WatchBench x = new WatchBench();
        x.cause(0, 0, 0);
        x.cause(2, 1, 1);
        x.cause(2, 1, 2);
        x.cause(2, 0, 0);
        Due.is("by no readings nothing is", x.find(1), Due.OPEN);
        x.read(0, 0);
        Due.is("one that shows something", x.find(1), 1);
        Due.is("one that shows nothing", x.find(8), Due.OPEN);
        Due.is("two that show alike in the state read", x.find(5), Due.OPEN);
        x.read(0, 7);
        Due.is("the same state twice does not help", x.find(5), Due.OPEN);
        x.read(3, 0);
        Due.is("a state in which they are unlike does", x.find(5), 2);
        Due.is("two that are alike everywhere", x.find(3), Due.OPEN);
        Due.is("three in which two are alike", x.find(7), Due.OPEN);
    }

    /** As least squares leave it: what is left, times what a cause shows, sums up to nothing for each cause. */
    private static void leavesLeast(String what, WatchBench x, int model) {
        for (int c = 0; c < 8; c++) {
            if ((model >> c & 1) != 0) {
                BigInteger above = BigInteger.ZERO;
                BigInteger below = BigInteger.ONE;
                for (int i = 0; i < x.count(1); i++) {
                    long shown = x.shows(c, (int) x.reading(i, 0));
                    BigInteger a = BigInteger.valueOf(shown).multiply(BigInteger.valueOf(x.left(i, false)));
                    BigInteger b = BigInteger.valueOf(x.left(i, true));
                    above = above.multiply(b).add(a.multiply(below));
                    below = below.multiply(b);
                }
                Due.holds(what + ": cause " + c + " could leave no less", above.signum() == 0);
            }
        }
    }

    @Sentence(promise = 0, says = "FOUND sizes of a firm model are those that make the sum of the squares of what is left least.")
    static void foundSizesLeaveLeast() {
        for (int model = 1; model < 8; model++) {
            WatchBench x = Benches.watch();
            x.find(model);
            leavesLeast("model " + model, x, model);
        }
        WatchBench great = Benches.great();
        Due.is("four causes with the greatest numbers", great.find(15), 4);
        leavesLeast("the greatest numbers", great, 15);
    }

    @Sentence(promise = 0, says = "(There is one such row; its numbers are fractions.)")
    static void foundSizesAreFractions() {
        WatchBench x = nineteenOfNothingAnd(1);
        Due.is("a mean of twenty", x.size(0, false), x.size(0, true), 1, 20);
        WatchBench y = nineteenOfNothingAnd(-299);
        Due.is("one below 0", y.size(0, false), y.size(0, true), -299, 20);
        WatchBench great = Benches.great();
        great.find(15);
        BigInteger above = BigInteger.ZERO;
        BigInteger below = BigInteger.ONE;
        for (int i = 0; i < 20; i++) {
            BigInteger a = BigInteger.valueOf(great.left(i, false));
            BigInteger b = BigInteger.valueOf(great.left(i, true));
            above = above.multiply(b).multiply(b).add(a.multiply(a).multiply(below));
            below = below.multiply(b).multiply(b);
        }
        BigInteger common = above.gcd(below);
        Due.is("the sum of great numbers", great.sum(false), great.sum(true), above.divide(common).longValueExact(),
            below.divide(common).longValueExact());
    }

    private static WatchBench nineteenOfNothingAnd(int rate) {
        int[] rates = new int[20];
        rates[7] = rate;
        return Benches.plain(rates);
    }

    @Sentence(promise = 0, says = "A cause of a model that isn't firm is LOOSE if two rows of sizes that foretell alike in all"
        + " readings' states have unlike sizes of it.")
    static void looseCauses() {
        WatchBench x = new WatchBench();
        x.cause(1, 0, 1);
        x.cause(1, 2, 3);
        x.cause(0, 0, 0);
        x.cause(4, 0, 0);
        x.read(0, 1);
        x.read(12, 2);
        x.read(24, 3);
        int[][] due = {{3, 3}, {7, 3}, {8, 8}, {12, 8}, {15, 11}, {13, 8}};
        for (int[] one : due) {
            Due.is("find(" + one[0] + ")", x.find(one[0]), Due.OPEN);
            Due.is("loose of " + one[0], x.loose(), one[1]);
        }
        WatchBench y = new WatchBench();
        y.cause(2, 1, 0);
        y.cause(2, 0, 1);
        y.cause(0, 0, 0);
        y.cause(1, 0, 1);
        y.read(0, 5);
        y.read(3, 5);
        y.read(12, 5);
        y.find(15);
        Due.is("three of four hang together", y.loose(), 7);
        y.drop(2);
        y.find(15);
        Due.is("and one shows nothing", y.loose(), 15);
        y.drop(1);
        y.find(7);
        Due.is("one that shows nothing, two alike", y.loose(), 7);
        y.find(6);
        Due.is("one that shows nothing beside one that is firm", y.loose(), 2);
    }

    @Sentence(promise = 0, says = "FRACTIONS are told by two acts' answers, what is above and what is below, in lowest terms,"
        + " below more than 0.")
    static void fractionsInLowestTerms() {
        WatchBench x = Benches.mended(-6, 2);
        x.read(0, -3);
        x.find(1);
        Due.is("size", x.size(0, false), x.size(0, true), -9, 2);
        Due.is("left", x.left(0, false), x.left(0, true), -3, 2);
        Due.is("sum", x.sum(false), x.sum(true), 9, 2);
        Due.is("foretold", x.foretold(0, false), x.foretold(0, true), -9, 2);
        Due.is("doubt", x.doubt(0, false, false), x.doubt(0, false, true), -6, 1);
        Due.is("behind", x.behind(0, 0, 2, 0, 0, false), x.behind(0, 0, 2, 0, 0, true), -1, 2);
        Due.is("worst", x.worst(false), x.worst(true), 9, 2);
        x.day(0, -6);
        x.day(0, 4);
        x.day(0, -4);
        x.day(0, -4);
        Due.is("mean", x.mean(0, false), x.mean(0, true), -5, 2);
    }

    @Sentence(promise = 0, says = "in lowest terms, below more than 0.")
    static void nothingIsNoughtOverOne() {
        WatchBench x = Benches.mended(0, 0);
        x.read(0, 0);
        x.find(1);
        x.day(0, 7);
        x.day(0, -7);
        Due.is("size", x.size(0, false), x.size(0, true), 0, 1);
        Due.is("left", x.left(0, false), x.left(0, true), 0, 1);
        Due.is("sum", x.sum(false), x.sum(true), 0, 1);
        Due.is("foretold", x.foretold(0, false), x.foretold(0, true), 0, 1);
        Due.is("doubt", x.doubt(0, false, false), x.doubt(0, false, true), 0, 1);
        Due.is("behind", x.behind(0, 0, 2, 0, 0, false), x.behind(0, 0, 2, 0, 0, true), 0, 1);
        Due.is("worst", x.worst(false), x.worst(true), 0, 1);
        Due.is("mean", x.mean(0, false), x.mean(0, true), 0, 1);
    }

    /* ---- 3: mends, papers ---- */

    @Sentence(promise = 0, says = "MENDS 0, 1, .. (at most 8) change the size of one cause by a whole number (-200 .. 200) for"
        + " each step.")
    static void atMostEightMends() {
        WatchBench x = Benches.plain(10);
        for (int m = 0; m < 8; m++) {
            Due.is("mend", x.mend(0, m == 7 ? 200 : -200), m);
        }
        Due.is("a ninth", x.mend(0, 0), Due.FULL);
        Due.is("one step of the first", x.behind(0, 0, 1, 0, 0, false), -190);
        Due.is("three steps of the last", x.behind(0, 7, 3, 0, 0, false), 610);
        Due.takesJust("by", -200, 200, by -> Benches.plain(10).mend(0, by));
    }

    @Sentence(promise = 0, says = "STEPS of a mend: -3 .. 3.")
    static void threeStepsEitherWay() {
        WatchBench x = Benches.mended(10, 1);
        Due.takesJust("steps", -3, 3, steps -> x.behind(0, 0, steps, 0, 0, false));
        Due.is("best() takes no more steps", Benches.mended(10, -1).best(), 16003);
        Due.is("either way", Benches.mended(10, 1).best(), 10003);
    }

    @Sentence(promise = 0, says = "PAPER: for each state a span of rates (from, to), or none (at first).")
    static void paperHasNoSpansAtFirst() {
        WatchBench x = Benches.plain(10);
        Due.is("none at first", x.count(3), 0);
        Due.is("so there is no paper", x.paper(), Due.OPEN);
        for (int state = 0; state < 36; state++) {
            Due.is("a span", x.span(state, 10, 10), 1);
        }
        Due.is("one for each state", x.count(3), 36);
        Due.is("all hold it", x.paper(), 1);
    }

    @Sentence(promise = 0, says = "WORST of some sizes: the greatest of what they foretell, without sign, in the states that have"
        + " a span.")
    static void worstWithoutSign() {
        WatchBench x = new WatchBench();
        x.cause(1, 0, 1);
        x.read(12, 30);
        x.find(1);
        x.span(0, -5, 5);
        Due.is("nothing is foretold lying", x.worst(false), 0);
        x.span(24, -1000, 1000);
        Due.is("below 0, without sign", x.worst(false), 30);
        x.span(24, 1, 0);
        Due.is("not where there is no span", x.worst(false), 0);
        x.span(12, 0, 0);
        Due.is("above 0", x.worst(false), 30);
    }
}
