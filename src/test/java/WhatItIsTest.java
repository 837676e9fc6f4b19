/** The document's part 'What it is': a watch whose causes have known sizes is put through the bench. */
public final class WhatItIsTest {
    /* Two of each position, both windings and all warmths among them. */
    private static final int[] STATES = {0, 4, 8, 9, 13, 17, 18, 22, 24, 29, 31, 33};

    public static void main(String[] args) throws IllegalAccessException {
        Sentences.run(WhatItIsTest.class);
    }

    /** Plain, poise, hair and warm, which can be told apart. */
    private static WatchBench bench() {
        WatchBench x = new WatchBench();
        x.cause(0, 0, 0);
        x.cause(1, 1, 2);
        x.cause(2, 1, -1);
        x.cause(4, 1, 1);
        return x;
    }

    /** What a watch gains in a state whose causes have these sizes. */
    private static int gain(WatchBench x, int state, int... sizes) {
        int total = 0;
        for (int c = 0; c < sizes.length; c++) {
            total += sizes[c] * (int) x.shows(c, state);
        }
        return total;
    }

    private static void readAll(WatchBench x, int... sizes) {
        for (int state : STATES) {
            x.read(state, gain(x, state, sizes));
        }
    }

    @Sentence(promise = -1, says = "A bench at which nobody opens anything: from what a watch gains lying, hanging, wound, run"
        + " down, cold and warm,")
    static void ratesAloneTellTheSizes() {
        int[] sizes = {40, -17, 9, 5};
        WatchBench x = bench();
        readAll(x, sizes);
        Due.is("find", x.find(15), 4);
        for (int c = 0; c < 4; c++) {
            Due.is("size of " + c, x.size(c, false), x.size(c, true), sizes[c], 1);
        }
        Due.is("nothing is left", x.sum(false), x.sum(true), 0, 1);
        for (int state = 0; state < 36; state++) {
            Due.is("foretold in " + state, x.foretold(state, false), gain(x, state, sizes));
        }
    }

    @Sentence(promise = -1, says = "sizes of told causes are found by least squares exactly,")
    static void foundExactly() {
        WatchBench x = Benches.fine();
        Due.is("find", x.find(15), 4);
        Due.is("a size", x.size(0, false), x.size(0, true), -171108548, 10193953);
        x.tell(-718492537);
        x.tell(42804870);
        Due.holds("another fraction is alike as a double", -718492537.0 / 42804870.0 == -171108548.0 / 10193953.0);
        Due.is("but it isn't the size", x.check(), 1);
    }

    @Sentence(promise = -1, says = "causes that can't be told apart are named,")
    static void looseOnesAreNamed() {
        WatchBench x = bench();
        x.cause(2, 2, 2);
        readAll(x, 40, -17, 9, 5);
        Due.is("plain and hair alike, poise beside them", x.find(19), Due.OPEN);
        Due.is("the two are named", x.loose(), 17);
        WatchBench lying = bench();
        lying.read(0, 5);
        lying.read(4, 6);
        lying.read(11, 7);
        Due.is("poise of a watch that lies", lying.find(7), Due.OPEN);
        Due.is("poise is named", lying.loose(), 2);
    }

    @Sentence(promise = -1, says = "few causes that leave least are sought,")
    static void fewAreSought() {
        WatchBench x = bench();
        x.cause(3, -2, 1);
        x.cause(5, 2, 3);
        x.cause(5, 3, 1);
        x.cause(4, 2, -1);
        int[] sizes = {0, 0, 11, 0, 0, 0, -13, 0};
        readAll(x, sizes);
        Due.is("just those that the watch has", x.few(3), 1 << 2 | 1 << 6);
        Due.is("they leave nothing", x.sum(false), 0);
        Due.is("hair", x.size(2, false), 11);
        Due.is("beat", x.size(6, false), -13);
    }

    @Sentence(promise = -1, says = "doubts are told by leaving readings out,")
    static void doubtsAreTold() {
        WatchBench x = bench();
        readAll(x, 40, -17, 9, 5);
        x.find(15);
        for (int c = 0; c < 4; c++) {
            Due.is("no doubt of " + c, x.doubt(c, true, false), x.doubt(c, false, false));
        }
        x.read(0, 300);
        x.find(15);
        long sure = x.doubt(0, false, false);
        Due.is("without the one misread it is sure", sure, x.doubt(0, false, true), 40, 1);
        Due.holds("with it there is doubt", x.doubt(0, true, false) > sure * x.doubt(0, true, true));
        Due.is("each could be left out", x.spare(), STATES.length + 1);
    }

    @Sentence(promise = -1, says = "mends are foretold,")
    static void mendsAreForetold() {
        WatchBench x = bench();
        readAll(x, 40, -17, 9, 5);
        x.mend(0, -12);
        x.mend(1, 4);
        x.find(15);
        WatchBench mended = bench();
        readAll(mended, 40 - 12 * 3, -17 + 4 * 2, 9, 5);
        mended.find(15);
        for (int state = 0; state < 36; state++) {
            Due.is("in " + state, x.behind(state, 0, 3, 1, 2, false), mended.foretold(state, false));
        }
    }

    private static long worstBehind(WatchBench x, int[] states, int m, int s, int n, int t) {
        long worst = 0;
        for (int state : states) {
            worst = Math.max(worst, Math.abs(x.behind(state, m, s, n, t, false)));
        }
        return worst;
    }

    @Sentence(promise = -1, says = "the best two of them sought,")
    static void theBestTwoAreSought() {
        int[] states = {3, 20};
        WatchBench x = bench();
        readAll(x, 40, -17, 9, 5);
        x.find(15);
        int[][] mends = {{2, 5}, {0, -7}, {1, 6}};
        for (int[] mend : mends) {
            x.mend(mend[0], mend[1]);
        }
        for (int state : states) {
            x.span(state, -20, 20);
        }
        long least = Long.MAX_VALUE;
        for (int m = 0; m < 2; m++) {
            for (int n = m + 1; n < 3; n++) {
                for (int steps = 0; steps < 49; steps++) {
                    least = Math.min(least, worstBehind(x, states, m, steps / 7 - 3, n, steps % 7 - 3));
                }
            }
        }
        long best = x.best();
        int m = (int) (best / 10000) - 1;
        int s = (int) (best / 1000 % 10) - 3;
        int n = (int) (best / 10 % 100) - 1;
        int t = (int) (best % 10) - 3;
        Due.holds("two are told", m >= 0 && n > m && n < 3 && s != 0 && t != 0);
        Due.is("they leave what is least of all", worstBehind(x, states, m, s, n, t), least);
    }

    @Sentence(promise = -1, says = "trials summed,")
    static void trialsAreSummed() {
        WatchBench x = bench();
        for (int i = 0; i < 60; i++) {
            x.day(STATES[i % 12], i);
        }
        Due.is("the mean of 0 .. 59", x.mean(-1, false), x.mean(-1, true), 59, 2);
        Due.is("dial down: 2, 3, 14, 15, ..", x.mean(1, false), x.mean(1, true), 53, 2);
        Due.is("from a day to the next", x.change(-1), 1);
        Due.is("from 3 to 14", x.change(1), 11);
    }

    @Sentence(promise = -1, says = "papers given or refused,")
    static void papersAreGivenOrRefused() {
        WatchBench x = bench();
        readAll(x, 40, -17, 9, 5);
        x.find(15);
        for (int state = 0; state < 36; state++) {
            int gain = gain(x, state, 40, -17, 9, 5);
            x.span(state, gain - 5, gain + 5);
        }
        Due.is("given", x.paper(), 1);
        x.span(19, -5, 5);
        Due.is("refused for state 19", x.paper(), 19 - 1000);
    }

    @Sentence(promise = -1, says = "and told findings judged.")
    static void findingsAreJudged() {
        WatchBench x = bench();
        readAll(x, 40, -17, 9, 5);
        x.read(0, 1);
        x.find(15);
        for (int c = 0; c < 4; c++) {
            x.tell((int) x.size(c, false));
            x.tell((int) x.size(c, true));
        }
        Due.is("what was found", x.check(), 0);
        int[] unspoilt = {40, 1, -17, 1, 9, 1, 5, 1};
        for (int number : unspoilt) {
            x.tell(number);
        }
        Due.is("what was found with nothing misread", x.check(), 1);
    }

    /** The dearest acts are asked again and again, with readings that come and go, up to the 512th call. */
    @Sentence(promise = -1, says = "An object is used for at most 512 calls after it has been made; what later calls answer is"
        + " free.")
    static void usedForAllItsCalls() {
        WatchBench x = Benches.full();
        int calls = 112;
        for (int state = 0; state < 36; state++) {
            x.span(state, -9, 9);
            calls++;
        }
        long[] first = null;
        while (calls + 12 <= 512) {
            long[] answers = {x.read(3, 3), x.drop(19), x.read(25, 147), x.few(3), x.best(), x.doubt(0, true, false),
                x.spare(), x.find(15), x.loose(), x.worst(false), x.paper(), x.sum(true)};
            calls += answers.length;
            if (first == null) {
                first = answers;
            }
            for (int i = 0; i < answers.length; i++) {
                Due.is("answer " + i + ", up to call " + calls, answers[i], first[i]);
            }
        }
        Due.holds("there were nearly as many calls as there may be", calls > 500);
    }
}
