import java.math.BigInteger;

/** Promises 11 to 20, a test for each sentence. */
public final class FoundTest {
    private static final int LEAST = Integer.MIN_VALUE;
    private static final int GREATEST = Integer.MAX_VALUE;

    public static void main(String[] args) throws IllegalAccessException {
        Sentences.run(FoundTest.class);
    }

    /** Eight causes, so that any of them can be asked for; without readings. */
    private static WatchBench eightCauses() {
        WatchBench x = new WatchBench();
        for (int c = 0; c < 8; c++) {
            x.cause(0, 0, 0);
        }
        return x;
    }

    /* ---- promise 11: find ---- */

    @Sentence(promise = 11, says = "The model's sizes are FOUND: how many causes it has.")
    static void findTellsHowManyCauses() {
        WatchBench x = Benches.watch();
        x.cause(1, 1, 1);
        Due.is("one", x.find(1), 1);
        Due.is("its size", x.size(0, false), x.size(0, true), 204, 5);
        Due.is("two", x.find(5), 2);
        Due.is("three", x.find(14), 3);
        Due.is("four", x.find(15), 4);
        Due.is("its last size", x.size(3, false), x.size(3, true), -8, 3);
    }

    @Sentence(promise = 11, says = "BEYOND: it isn't one to four causes that are there.")
    static void findOneToFourThatAreThere() {
        WatchBench x = Benches.watch();
        int[] notThere = {0, 8, 9, 15, 16, 256, 257, 1 << 30, LEAST, LEAST | 1, -1, -8, GREATEST};
        for (int model : notThere) {
            Due.is("find(" + model + ") of three", x.find(model), Due.BEYOND);
        }
        Due.is("nothing is found", x.model(), Due.NONE);
        Due.is("all three", x.find(7), 3);
        WatchBench y = eightCauses();
        int[] tooMany = {31, 248, 0b10101011, 127, 255, 256, 271};
        for (int model : tooMany) {
            Due.is("find(" + model + ") of eight", y.find(model), Due.BEYOND);
        }
        Due.is("the last four are there", y.find(240), Due.OPEN);
        Due.is("without causes", new WatchBench().find(1), Due.BEYOND);
    }

    @Sentence(promise = 11, says = "OPEN: it isn't FIRM by all readings (loose() tells, then).")
    static void findWhatIsNotFirm() {
        WatchBench x = new WatchBench();
        x.cause(0, 0, 0);
        x.cause(1, 0, 1);
        Due.is("without readings", x.find(1), Due.OPEN);
        Due.is("its loose", x.loose(), 1);
        x.read(0, 10);
        Due.is("by one reading", x.find(1), 1);
        Due.is("poise by one lying", x.find(2), Due.OPEN);
        Due.is("its loose", x.loose(), 2);
        Due.is("what was found stays", x.model(), 1);
        Due.is("and its size", x.size(0, false), 10);
        Due.is("two causes by one reading", x.find(3), Due.OPEN);
        Due.is("its loose", x.loose(), 2);
        x.read(6, 10);
        Due.is("two causes by two readings that show alike", x.find(3), Due.OPEN);
        x.read(12, 13);
        Due.is("by as many unlike readings as causes", x.find(3), 2);
        x.drop(2);
        Due.is("a dropped reading is none", x.find(3), Due.OPEN);
    }

    /* ---- promise 12: loose ---- */

    /** Causes 0 and 1 hair, 2 plain, 3 poise, 4 one that shows nothing; 0 to 2 can't be told apart. */
    private static WatchBench looseBench() {
        WatchBench x = new WatchBench();
        x.cause(2, 1, 2);
        x.cause(2, 2, 1);
        x.cause(0, 0, 0);
        x.cause(1, 0, 1);
        x.cause(4, 0, 0);
        x.read(0, 1);
        x.read(3, 2);
        x.read(12, 3);
        return x;
    }

    @Sentence(promise = 12, says = "The set of LOOSE causes of the latest find() or few() that answered OPEN;")
    static void looseOfTheLatestOpen() {
        WatchBench x = looseBench();
        int[][] due = {{7, 7}, {15, 7}, {17, 16}, {23, 23}, {27, 16}, {16, 16}};
        for (int[] one : due) {
            Due.is("find(" + one[0] + ")", x.find(one[0]), Due.OPEN);
            Due.is("loose of " + one[0], x.loose(), one[1]);
            Due.is("asked once more", x.loose(), one[1]);
        }
        x.find(7);
        Due.is("a firm find", x.find(3), 2);
        Due.is("isn't one that answered OPEN", x.loose(), 7);
        Due.is("a few that finds", x.few(1) > 0 ? 1 : 0, 1);
        Due.is("neither", x.loose(), 7);
        x.find(0);
        x.few(0);
        Due.is("nor are those that answer BEYOND", x.loose(), 7);
        x.keep();
        x.back();
        Due.is("nor is back()", x.loose(), 7);
        x.drop(0);
        x.drop(0);
        x.drop(0);
        Due.is("few without readings", x.few(3), Due.OPEN);
        Due.is("its loose", x.loose(), 31);
        x.find(8);
        Due.is("a find behind it", x.loose(), 8);
    }

    @Sentence(promise = 12, says = "0 without one.")
    static void looseWithoutAnOpen() {
        WatchBench x = looseBench();
        Due.is("at first", x.loose(), 0);
        x.find(3);
        x.few(2);
        Due.is("behind what was found", x.loose(), 0);
        x.find(0);
        x.find(32);
        x.few(4);
        Due.is("behind what answered BEYOND", x.loose(), 0);
        WatchBench y = new WatchBench();
        y.few(1);
        Due.is("behind a few() that answered NONE", y.loose(), 0);
    }

    /* ---- promise 13: size ---- */

    @Sentence(promise = 13, says = "The size of cause c: what is above (below: what is below).")
    static void sizeAboveAndBelow() {
        WatchBench x = Benches.foundWatch();
        Due.is("size 0", x.size(0, false), x.size(0, true), 33, 1);
        Due.is("size 1", x.size(1, false), x.size(1, true), 35, 2);
        Due.is("size 2", x.size(2, false), x.size(2, true), 13, 1);
        x.find(5);
        Due.is("size 2 beside another", x.size(2, false), x.size(2, true), 13, 1);
        WatchBench y = new WatchBench();
        y.cause(1, 2, 3);
        y.read(12, 1);
        y.read(24, 0);
        y.find(1);
        Due.is("less than 0", y.size(0, false), y.size(0, true), -1, 6);
        y.drop(0);
        y.find(1);
        Due.is("nothing", y.size(0, false), y.size(0, true), 0, 1);
    }

    @Sentence(promise = 13, says = "NONE: nothing was found.")
    static void sizeWithNothingFound() {
        FoundActs.noneWithout(x -> x.size(0, false));
    }

    @Sentence(promise = 13, says = "STALE: a cause(), read(), drop() or lay() was done since.")
    static void sizeStale() {
        FoundActs.staleBehindChanges(x -> x.size(1, false));
        FoundActs.notStaleOtherwise(x -> x.size(1, false));
        WatchBench x = Benches.foundWatch();
        x.read(0, 0);
        Due.is("an OPEN find", x.cause(2, 0, 0) + x.find(8), 3 + Due.OPEN);
        Due.is("leaves what was found stale", x.size(1, false), Due.STALE);
        x.few(1);
        Due.is("few() finds anew", x.model(), 1);
    }

    @Sentence(promise = 13, says = "BEYOND: c isn't in the model.")
    static void sizeOfACauseOutsideTheModel() {
        WatchBench x = Benches.watch();
        x.find(2);
        Due.takesJust("cause", 1, 1, c -> x.size(c, false));
        Due.is("33 is 1 behind a shift", x.size(33, false), Due.BEYOND);
        x.find(5);
        Due.is("between two of the model", x.size(1, true), Due.BEYOND);
        Due.is("there is none such", x.size(3, true), Due.BEYOND);
        Due.is("-30 is 2 behind a shift", x.size(-30, true), Due.BEYOND);
        WatchBench y = Benches.full();
        y.find(128);
        Due.takesJust("the last cause", 7, 7, c -> y.size(c, true));
    }

    /* ---- promise 14: left ---- */

    @Sentence(promise = 14, says = "What is LEFT of reading i.")
    static void leftOfEachReading() {
        WatchBench x = Benches.foundWatch();
        long[] due = {4, -1, -1, 0, -2};
        for (int i = 0; i < 5; i++) {
            Due.is("left(" + i + ")", x.left(i, false), x.left(i, true), due[i], 1);
        }
        x.find(1);
        Due.is("left(0) of a mean", x.left(0, false), x.left(0, true), 46, 5);
        Due.is("left(2) of a mean", x.left(2, false), x.left(2, true), -154, 5);
    }

    @Sentence(promise = 14, says = "NONE.")
    static void leftWithNothingFound() {
        FoundActs.noneWithout(x -> x.left(0, false));
    }

    @Sentence(promise = 14, says = "STALE.")
    static void leftStale() {
        FoundActs.staleBehindChanges(x -> x.left(0, false));
        FoundActs.notStaleOtherwise(x -> x.left(0, false));
    }

    @Sentence(promise = 14, says = "BEYOND: there is none such.")
    static void leftOfNoReading() {
        WatchBench x = Benches.foundWatch();
        Due.takesJust("reading", 0, 4, i -> x.left(i, false));
        WatchBench y = Benches.full();
        y.find(1);
        Due.takesJust("reading of most", 0, 19, i -> y.left(i, true));
    }

    /* ---- promise 15: sum ---- */

    @Sentence(promise = 15, says = "The sum of the squares of what is left.")
    static void sumOfSquares() {
        WatchBench x = Benches.foundWatch();
        Due.is("16 + 1 + 1 + 0 + 4", x.sum(false), x.sum(true), 22, 1);
        x.find(1);
        Due.is("sum of a mean", x.sum(false), x.sum(true), 15064, 5);
        Due.is("nothing is left", Benches.plain(7).sum(false), Benches.plain(7).sum(true), 0, 1);
        int[] most = new int[20];
        for (int i = 0; i < 20; i++) {
            most[i] = i % 2 == 0 ? 300 : -300;
        }
        Due.is("the greatest sum", Benches.plain(most).sum(false), Benches.plain(most).sum(true), 1800000, 1);
    }

    @Sentence(promise = 15, says = "NONE.")
    static void sumWithNothingFound() {
        FoundActs.noneWithout(x -> x.sum(false));
    }

    @Sentence(promise = 15, says = "STALE.")
    static void sumStale() {
        FoundActs.staleBehindChanges(x -> x.sum(true));
        FoundActs.notStaleOtherwise(x -> x.sum(false));
    }

    /* ---- promise 16: foretold ---- */

    @Sentence(promise = 16, says = "What is foretold in a state.")
    static void foretoldInStates() {
        WatchBench x = Benches.foundWatch();
        int[][] due = {{0, 46}, {3, 20}, {12, 81}, {15, 55}, {18, 46}, {24, 11}, {27, -15}, {35, 20}};
        for (int[] one : due) {
            Due.is("state " + one[0], x.foretold(one[0], false), x.foretold(one[0], true), one[1], 1);
        }
        x.find(2);
        Due.is("poise lying", x.foretold(0, false), x.foretold(0, true), 0, 1);
        x.find(1);
        Due.is("a fraction in a state that wasn't read", x.foretold(35, false), x.foretold(35, true), 204, 5);
    }

    @Sentence(promise = 16, says = "NONE.")
    static void foretoldWithNothingFound() {
        FoundActs.noneWithout(x -> x.foretold(0, false));
    }

    @Sentence(promise = 16, says = "STALE.")
    static void foretoldStale() {
        FoundActs.staleBehindChanges(x -> x.foretold(0, false));
        FoundActs.notStaleOtherwise(x -> x.foretold(12, false));
    }

    @Sentence(promise = 16, says = "BEYOND: there is none such.")
    static void foretoldInNoState() {
        WatchBench x = Benches.foundWatch();
        Due.takesJust("state", 0, 35, state -> x.foretold(state, false));
    }

    /* ---- promise 17: model ---- */

    @Sentence(promise = 17, says = "The model that was found: its set.")
    static void modelIsTheSetFound() {
        WatchBench x = Benches.watch();
        x.find(5);
        Due.is("of find", x.model(), 5);
        x.few(1);
        Due.is("of few", x.model(), 1);
        x.find(8);
        Due.is("a refused find changes nothing", x.model(), 1);
        WatchBench y = Benches.full();
        y.find(128);
        Due.is("the last cause alone", y.model(), 128);
    }

    @Sentence(promise = 17, says = "NONE.")
    static void modelWithNothingFound() {
        FoundActs.noneWithout(x -> x.model());
    }

    @Sentence(promise = 17, says = "STALE.")
    static void modelStale() {
        FoundActs.staleBehindChanges(x -> x.model());
        FoundActs.notStaleOtherwise(x -> x.model());
    }

    /* ---- promise 18: few ---- */

    @Sentence(promise = 18, says = "Of all firm models of at most k causes the one with the least sum left,")
    static void fewLeavesLeast() {
        WatchBench x = Benches.watch();
        Due.is("few(1)", x.few(1), 1);
        Due.is("few(2)", x.few(2), 3);
        Due.is("few(3)", x.few(3), 7);
        WatchBench y = new WatchBench();
        y.cause(2, 0, 0);
        y.cause(1, 1, 1);
        y.cause(0, 0, 0);
        y.read(0, 9);
        Due.is("those that aren't firm are left out", y.few(3), 4);
        WatchBench z = new WatchBench();
        for (int c = 0; c < 5; c++) {
            z.cause(2, 0, 0);
        }
        z.cause(0, 0, 0);
        z.cause(1, 0, 1);
        z.cause(1, 1, 1);
        z.read(0, 10);
        z.read(6, 10);
        z.read(12, 30);
        z.read(18, 100);
        Due.is("the last three of eight", z.few(3), 224);
        Due.is("the last alone leaves least", z.few(1), 128);
    }

    private static int order(long a, long b, long c, long d) {
        BigInteger left = BigInteger.valueOf(a).multiply(BigInteger.valueOf(d));
        return left.compareTo(BigInteger.valueOf(c).multiply(BigInteger.valueOf(b)));
    }

    @Sentence(promise = 18, says = "the one with the least sum left,")
    static void fewLeavesLeastOfGreatNumbers() {
        WatchBench x = Benches.great();
        long best = 0;
        long above = 0;
        long below = 0;
        for (int causes = 1; causes <= 3; causes++) {
            for (int set = 1; set < 256; set++) {
                if (Integer.bitCount(set) == causes && x.find(set) == causes) {
                    if (best == 0 || order(x.sum(false), x.sum(true), above, below) < 0) {
                        best = set;
                        above = x.sum(false);
                        below = x.sum(true);
                    }
                }
            }
            Due.is("few(" + causes + ")", Benches.great().few(causes), best);
        }
    }

    /** 7 leaves 4106519053056/2596608 and 14 leaves 3540328498944/2246400: only one crosswise product fits a long. */
    @Sentence(promise = 18, says = "the one with the least sum left,")
    static void fewLeavesLeastBeyondCrosswiseProducts() {
        WatchBench x = new WatchBench();
        int[][] causes = {{3, -2, 2}, {3, 2, 2}, {5, 0, 3}, {2, -2, 2}};
        for (int[] cause : causes) {
            x.cause(cause[0], cause[1], cause[2]);
        }
        int[][] readings = {{27, 298}, {15, 299}, {15, -300}, {27, 298}, {13, -300}, {24, 300}, {12, -300}, {24, -300},
            {13, -298}, {24, 300}, {24, -299}, {15, -299}, {12, 300}, {15, 298}, {13, 300}, {13, 300}, {27, 298}, {27, 299},
            {15, -299}, {15, -299}};
        for (int[] reading : readings) {
            x.read(reading[0], reading[1]);
        }
        Due.is("few(3)", x.few(3), 14);
    }

    @Sentence(promise = 18, says = "at most k causes")
    static void fewTakesNoMoreThanK() {
        WatchBench x = new WatchBench();
        x.cause(0, 0, 0);
        x.cause(1, 0, 1);
        x.cause(1, 1, 1);
        x.cause(2, 0, 1);
        x.read(0, 10);
        x.read(12, 30);
        x.read(18, 100);
        x.read(3, 17);
        Due.is("all four would leave nothing", x.find(15), 4);
        Due.is("three of four", x.few(3), 7);
        Due.is("what they leave", x.sum(false), x.sum(true), 49, 2);
        Due.is("two of four", x.few(2), 5);
        Due.is("one of four", x.few(1), 4);
        WatchBench y = Benches.plain(5);
        Due.is("more than there are", y.few(3), 1);
    }

    @Sentence(promise = 18, says = "of alike ones that with fewer causes,")
    static void fewOfAlikeWithFewerCauses() {
        WatchBench x = new WatchBench();
        x.cause(2, 1, 0);
        x.cause(2, 0, 1);
        x.cause(2, 1, -1);
        x.cause(0, 0, 0);
        x.read(0, 50);
        x.read(3, 50);
        Due.is("the last alone leaves nothing, as do the first two", x.few(2), 8);
        Due.is("with three allowed", x.few(3), 8);
    }

    @Sentence(promise = 18, says = "of these the least set as a number:")
    static void fewOfAlikeTheLeastSet() {
        WatchBench x = new WatchBench();
        x.cause(2, 2, 2);
        x.cause(0, 0, 0);
        x.cause(2, 1, 2);
        x.read(0, 50);
        x.read(6, 50);
        Due.is("each of three alone leaves nothing", x.few(3), 1);
        WatchBench y = new WatchBench();
        y.cause(1, 0, 1);
        y.cause(0, 0, 0);
        y.cause(2, 0, 1);
        y.cause(1, 1, 1);
        y.read(12, 10);
        y.read(18, 10);
        y.read(3, 0);
        Due.is("causes 1 and 2, not 0 and 3: 6 is less than 9", y.few(2), 6);
    }

    @Sentence(promise = 18, says = "it is found: its set.")
    static void fewFinds() {
        WatchBench x = Benches.watch();
        Due.is("nothing was found", x.model(), Due.NONE);
        Due.is("its set", x.few(2), 3);
        Due.is("model", x.model(), 3);
        Due.is("a size of it", x.size(1, false), x.size(1, true), 35, 2);
        Due.is("no size outside of it", x.size(2, false), Due.BEYOND);
        Due.is("its spare", x.spare(), 5);
    }

    @Sentence(promise = 18, says = "BEYOND: k isn't 1 .. 3.")
    static void fewOfTooFewOrMany() {
        WatchBench x = Benches.watch();
        Due.takesJust("k", 1, 3, k -> x.few(k));
        WatchBench y = Benches.foundWatch();
        y.few(0);
        y.few(4);
        Due.is("what was found stays", y.model(), 7);
    }

    @Sentence(promise = 18, says = "NONE: there are no causes.")
    static void fewWithoutCauses() {
        WatchBench x = new WatchBench();
        Due.is("a new object", x.few(1), Due.NONE);
        x.read(0, 1);
        Due.is("with a reading", x.few(3), Due.NONE);
        Due.is("loose() tells nothing of it", x.loose(), 0);
        x.cause(0, 0, 0);
        Due.is("with a cause", x.few(3), 1);
    }

    @Sentence(promise = 18, says = "OPEN: none is firm (loose() tells all causes, then).")
    static void fewWithNoneFirm() {
        WatchBench x = new WatchBench();
        x.cause(1, 0, 1);
        x.cause(5, 0, 1);
        x.cause(2, 0, 1);
        Due.is("without readings", x.few(1), Due.OPEN);
        Due.is("all are loose", x.loose(), 7);
        x.find(2);
        x.read(0, 1);
        Due.is("all show nothing there", x.few(2), Due.OPEN);
        Due.is("all are loose", x.loose(), 7);
        Due.is("nothing is found", x.model(), Due.NONE);
        x.cause(0, 0, 0);
        Due.is("one is firm", x.few(2), 8);
        x.drop(0);
        Due.is("none again", x.few(3), Due.OPEN);
        Due.is("all four are loose", x.loose(), 15);
        Due.is("what was found is stale, not gone", x.model(), Due.STALE);
        WatchBench y = eightCauses();
        y.few(1);
        Due.is("all eight are loose", y.loose(), 255);
    }

    /* ---- promise 19: doubt ---- */

    @Sentence(promise = 19, says = "With each reading left out once")
    static void doubtLeavesEachOut() {
        WatchBench x = Benches.plain(0, 12, 30);
        Due.is("least: without the last", x.doubt(0, false, false), x.doubt(0, false, true), 6, 1);
        Due.is("most: without the first", x.doubt(0, true, false), x.doubt(0, true, true), 21, 1);
        WatchBench y = Benches.plain(30, 12, 0);
        Due.is("least: without the first", y.doubt(0, false, false), 6);
        Due.is("most: without the last", y.doubt(0, true, false), 21);
        WatchBench z = Benches.plain(0, 30, -30, 0);
        Due.is("least: without the second", z.doubt(0, false, false), -10);
        Due.is("most: without the third", z.doubt(0, true, false), 10);
        Due.is("what was found stays", z.size(0, false), z.size(0, true), 0, 1);
        Due.is("all readings are there still", z.count(1), 4);
        Due.is("and left as before", z.left(1, false), 30);
    }

    @Sentence(promise = 19, says = "(of those without which the model that was found is firm):")
    static void doubtOfThoseThatCanBeSpared() {
        WatchBench x = new WatchBench();
        x.cause(0, 0, 0);
        x.cause(1, 0, 1);
        x.read(0, 6);
        x.read(0, 8);
        x.read(12, 9);
        x.find(3);
        Due.is("least", x.doubt(1, false, false), x.doubt(1, false, true), 1, 1);
        Due.is("most", x.doubt(1, true, false), x.doubt(1, true, true), 3, 1);
        x.find(1);
        Due.is("of another model all can be spared: least", x.doubt(0, false, false), 7);
        Due.is("most", x.doubt(0, true, false), x.doubt(0, true, true), 17, 2);
    }

    @Sentence(promise = 19, says = "the least (most: the greatest) size FOUND so of cause c.")
    static void doubtLeastAndGreatest() {
        WatchBench x = Benches.foundWatch();
        Due.is("least of 1", x.doubt(1, false, false), x.doubt(1, false, true), 33, 2);
        Due.is("most of 1", x.doubt(1, true, false), x.doubt(1, true, true), 37, 2);
        WatchBench below = Benches.plain(-7, -8, -9);
        Due.is("least, all below 0", below.doubt(0, false, false), below.doubt(0, false, true), -17, 2);
        Due.is("most, all below 0", below.doubt(0, true, false), below.doubt(0, true, true), -15, 2);
        WatchBench alike = Benches.plain(5, 5);
        Due.is("least of alike ones", alike.doubt(0, false, false), alike.doubt(0, false, true), 5, 1);
        Due.is("most of alike ones", alike.doubt(0, true, false), alike.doubt(0, true, true), 5, 1);
        WatchBench ends = Benches.plain(300, -300);
        Due.is("least of the ends", ends.doubt(0, false, false), -300);
        Due.is("most of the ends", ends.doubt(0, true, false), 300);
    }

    @Sentence(promise = 19, says = "the least (most: the greatest) size FOUND so of cause c.")
    static void doubtLeastAndGreatestOfGreatNumbers() {
        int model = 0b10010101;
        WatchBench x = Benches.great();
        Due.is("four causes", x.find(model), 4);
        for (int c : new int[] {0, 2, 4, 7}) {
            WatchBench least = null;
            WatchBench most = null;
            for (int i = 0; i < 20; i++) {
                WatchBench y = Benches.great();
                y.drop(i);
                y.find(model);
                least = least == null || orderOfSizes(c, y, least) < 0 ? y : least;
                most = most == null || orderOfSizes(c, y, most) > 0 ? y : most;
            }
            String what = " of " + c;
            Due.is("least" + what, x.doubt(c, false, false), x.doubt(c, false, true), least.size(c, false), least.size(c, true));
            Due.is("most" + what, x.doubt(c, true, false), x.doubt(c, true, true), most.size(c, false), most.size(c, true));
        }
    }

    private static int orderOfSizes(int c, WatchBench x, WatchBench y) {
        return order(x.size(c, false), x.size(c, true), y.size(c, false), y.size(c, true));
    }

    @Sentence(promise = 19, says = "NONE.")
    static void doubtWithNothingFound() {
        FoundActs.noneWithout(x -> x.doubt(0, true, false));
    }

    @Sentence(promise = 19, says = "STALE.")
    static void doubtStale() {
        FoundActs.staleBehindChanges(x -> x.doubt(1, false, false));
        FoundActs.notStaleOtherwise(x -> x.doubt(1, false, false));
    }

    @Sentence(promise = 19, says = "BEYOND: c isn't in the model.")
    static void doubtOfACauseOutsideTheModel() {
        WatchBench x = Benches.watch();
        x.find(2);
        Due.takesJust("cause", 1, 1, c -> x.doubt(c, true, true));
        Due.is("33 is 1 behind a shift", x.doubt(33, true, false), Due.BEYOND);
        x.find(5);
        Due.is("between two of the model", x.doubt(1, false, true), Due.BEYOND);
    }

    @Sentence(promise = 19, says = "OPEN: it is firm without none.")
    static void doubtWithNoneToSpare() {
        WatchBench x = Benches.plain(6);
        Due.is("one reading", x.doubt(0, true, false), Due.OPEN);
        WatchBench y = new WatchBench();
        y.cause(0, 0, 0);
        y.cause(1, 0, 1);
        y.read(0, 6);
        y.read(12, 9);
        y.find(3);
        Due.is("as many readings as causes", y.doubt(1, false, true), Due.OPEN);
        y.read(12, 8);
        y.find(3);
        Due.holds("one more can be spared", y.doubt(1, false, true) > Due.LOW);
        y.drop(2);
        y.find(2);
        Due.is("poise by one reading that shows it, and one that can be spared", y.doubt(1, false, false), 9);
        y.drop(0);
        y.find(2);
        Due.is("poise by one reading that shows it", y.doubt(1, false, false), Due.OPEN);
    }

    /* ---- promise 20: spare ---- */

    @Sentence(promise = 20, says = "How many readings could be left out so.")
    static void spareReadings() {
        WatchBench x = Benches.foundWatch();
        Due.is("three causes, five readings, one of them needed", x.spare(), 4);
        x.find(1);
        Due.is("one cause: each of five", x.spare(), 5);
        Due.is("one reading: none", Benches.plain(6).spare(), 0);
        Due.is("two readings: both", Benches.plain(6, 6).spare(), 2);
        WatchBench y = Benches.full();
        y.find(1);
        Due.is("all of twenty", y.spare(), 20);
        Due.is("what was found stays", y.model(), 1);
    }

    @Sentence(promise = 20, says = "NONE.")
    static void spareWithNothingFound() {
        FoundActs.noneWithout(x -> x.spare());
    }

    @Sentence(promise = 20, says = "STALE.")
    static void spareStale() {
        FoundActs.staleBehindChanges(x -> x.spare());
        FoundActs.notStaleOtherwise(x -> x.spare());
    }
}
