/** Promises 31 to 36, a test for each sentence. */
public final class ToldTest {
    private static final int LEAST = Integer.MIN_VALUE;
    private static final int GREATEST = Integer.MAX_VALUE;

    public static void main(String[] args) throws IllegalAccessException {
        Sentences.run(ToldTest.class);
    }

    /** Sizes 204/5 of cause 0 and 35/2 of cause 2; cause 1 is not in the model. */
    private static WatchBench bench() {
        WatchBench x = new WatchBench();
        x.cause(0, 0, 0);
        x.cause(2, 1, -1);
        x.cause(1, 0, 2);
        x.read(0, 50);
        x.read(12, 80);
        x.read(24, 10);
        x.read(3, 20);
        x.read(18, 44);
        x.find(5);
        return x;
    }

    private static long judged(WatchBench x, int... numbers) {
        for (int number : numbers) {
            x.tell(number);
        }
        return x.check();
    }

    /* ---- promise 31: tell ---- */

    @Sentence(promise = 31, says = "One more number waits: how many.")
    static void tellCounts() {
        WatchBench x = new WatchBench();
        int[] numbers = {0, LEAST, GREATEST, -1};
        for (int i = 0; i < numbers.length; i++) {
            Due.is("tell " + numbers[i], x.tell(numbers[i]), i + 1);
            Due.is("count", x.count(5), i + 1);
        }
    }

    @Sentence(promise = 31, says = "FULL: 16 wait.")
    static void tellTheSeventeenth() {
        WatchBench x = new WatchBench();
        for (int i = 0; i < 15; i++) {
            x.tell(i);
        }
        Due.is("the sixteenth is taken", x.tell(0), 16);
        Due.is("the seventeenth", x.tell(0), Due.FULL);
        Due.is("16 wait still", x.count(5), 16);
        x.check();
        Due.is("behind check() there is room", x.tell(0), 1);
    }

    /* ---- promise 32: check ---- */

    @Sentence(promise = 32, says = "The numbers that wait (none do then)")
    static void checkTakesTheNumbers() {
        WatchBench x = bench();
        Due.is("just these", judged(x, 204, 5, 35, 2), 0);
        Due.is("none wait then", x.count(5), 0);
        Due.is("so they are missing now", x.check(), 1);
        Due.is("wrong ones", judged(x, 1, 1), 1);
        Due.is("none wait then", x.count(5), 0);
        Due.is("too many", judged(x, 204, 5, 35, 2, 1), 100);
        Due.is("none wait then", x.count(5), 0);
        Due.is("told anew", judged(x, 204, 5, 35, 2), 0);
    }

    @Sentence(promise = 32, says = "are the sizes found: for each cause of the model, from the least on, above and below:")
    static void checkFromTheLeastCauseOn() {
        Due.is("from the least on", judged(bench(), 204, 5, 35, 2), 0);
        Due.is("from the greatest on", judged(bench(), 35, 2, 204, 5), 1);
        Due.is("below and above", judged(bench(), 5, 204, 2, 35), 1);
        WatchBench x = Benches.watch();
        x.cause(1, 1, 1);
        x.find(15);
        Due.is("of four causes", judged(x, 100, 3, 35, 2, 40, 3, -8, 3), 0);
    }

    @Sentence(promise = 32, says = "0 if they are just these, in any terms")
    static void checkInAnyTerms() {
        Due.is("other terms", judged(bench(), 408, 10, 350, 20), 0);
        Due.is("both below 0", judged(bench(), -204, -5, -35, -2), 0);
        Due.is("one below 0", judged(bench(), -204, 5, 35, 2), 1);
        Due.is("the other below 0", judged(bench(), 204, -5, 35, 2), 1);
        Due.is("the greatest terms", judged(bench(), 2147483520, 52634400, 35, 2), 0);
        Due.is("just beside them", judged(bench(), 2147483520, 52634399, 35, 2), 1);
        Due.is("a whole number", judged(Benches.plain(1), LEAST, LEAST), 0);
        Due.is("below 0", judged(Benches.plain(-1), GREATEST, -GREATEST), 0);
        Due.is("below 0, told above 0", judged(Benches.plain(-1), LEAST, LEAST), 1);
        Due.is("nearly so", judged(Benches.plain(-1), LEAST, GREATEST), 1);
        Due.is("nothing", judged(Benches.plain(0), 0, 1), 0);
        Due.is("nothing over the least", judged(Benches.plain(0), 0, LEAST), 0);
        Due.is("nothing over the greatest", judged(Benches.plain(0), 0, GREATEST), 0);
        Due.is("nearly nothing", judged(Benches.plain(0), 1, GREATEST), 1);
    }

    @Sentence(promise = 32, says = "0 if they are just these, in any terms")
    static void checkOfGreatTerms() {
        WatchBench x = Benches.fine();
        x.find(15);
        int[] sizes = {-171108548, 10193953, 10211555, 926723, -61673386, 10193953, -26240220, 10193953};
        Due.is("just these", judged(x, sizes), 0);
        // so near to the first size that as doubles they are one
        sizes[0] = -718492537;
        sizes[1] = 42804870;
        Due.is("the first is another", judged(x, sizes), 1);
    }

    @Sentence(promise = 32, says = "(below not 0);")
    static void checkWithNoughtBelow() {
        Due.is("of the first", judged(bench(), 204, 0, 35, 2), 1);
        Due.is("of the second", judged(bench(), 204, 5, 35, 0), 2);
        Due.is("nothing over nothing", judged(Benches.plain(0), 0, 0), 1);
        Due.is("the greatest over nothing", judged(Benches.plain(300), GREATEST, 0), 1);
    }

    @Sentence(promise = 32, says = "1 and k for the first cause (from 0 on) whose numbers are missing or wrong;")
    static void checkTellsTheFirstWrong() {
        Due.is("nothing told", judged(bench()), 1);
        Due.is("half of the first", judged(bench(), 204), 1);
        Due.is("the first alone", judged(bench(), 204, 5), 2);
        Due.is("half of the second", judged(bench(), 204, 5, 35), 2);
        Due.is("the first wrong", judged(bench(), 204, 6, 35, 2), 1);
        Due.is("the second wrong", judged(bench(), 204, 5, 35, 3), 2);
        Due.is("both wrong", judged(bench(), 1, 1, 1, 1), 1);
        Due.is("the first wrong and the second missing", judged(bench(), 203, 5), 1);
        WatchBench x = bench();
        Due.is("all told", judged(x, 204, 5, 35, 2), 0);
        Due.is("half of the first, all having been told before", judged(x, 204), 1);
        Due.is("half of the second, all having been told before", judged(x, 204, 5, 35), 2);
        x.find(4);
        Due.is("k is the cause's place in the model, not its number", judged(x, 1, 1), 1);
        WatchBench y = Benches.watch();
        y.cause(1, 1, 1);
        y.find(15);
        Due.is("the last of four is wrong", judged(y, 100, 3, 35, 2, 40, 3, 8, 3), 4);
        Due.is("the last of four is missing", judged(y, 100, 3, 35, 2, 40, 3), 4);
    }

    @Sentence(promise = 32, says = "100 if more were told.")
    static void checkOfTooMany() {
        Due.is("one more", judged(bench(), 204, 5, 35, 2, 0), 100);
        Due.is("two more", judged(bench(), 204, 5, 35, 2, 35, 2), 100);
        Due.is("as many as may wait", judged(bench(), 204, 5, 35, 2, 1, 1, 1, 1, 1, 1, 1, 1, 1, 1, 1, 1), 100);
        Due.is("one wrong, and more: the wrong one is told", judged(bench(), 204, 5, 34, 2, 7), 2);
    }

    @Sentence(promise = 32, says = "NONE.")
    static void checkWithNothingFound() {
        FoundActs.noneWithout(x -> x.check());
    }

    @Sentence(promise = 32, says = "STALE.")
    static void checkStale() {
        FoundActs.staleBehindChanges(x -> x.check());
        FoundActs.notStaleOtherwise(x -> x.check());
    }

    @Sentence(promise = 32, says = "(The numbers are gone also with a finding.)")
    static void checkRefusedTakesTheNumbersToo() {
        WatchBench x = new WatchBench();
        x.tell(1);
        Due.is("nothing found", x.check(), Due.NONE);
        Due.is("none wait then", x.count(5), 0);
        Due.is("the first again", x.tell(1), 1);
        WatchBench y = bench();
        y.tell(204);
        y.tell(5);
        y.read(0, 0);
        Due.is("stale", y.check(), Due.STALE);
        Due.is("none wait then", y.count(5), 0);
        y.drop(5);
        y.find(5);
        Due.is("found again: they are gone", judged(y, 35, 2), 1);
        WatchBench full = Benches.full();
        Due.is("sixteen", full.check(), Due.NONE);
        Due.is("none wait then", full.count(5), 0);
    }

    /* ---- promises 33 and 34: keep, back ---- */

    /** All that is kept, changed: another cause, other readings, mends and spans. */
    private static void changeAll(WatchBench x) {
        x.cause(3, 1, 1);
        x.drop(1);
        x.read(35, 7);
        x.read(35, 8);
        x.mend(3, 9);
        x.span(0, 5, 6);
        x.span(1, 5, 6);
    }

    private static WatchBench keptBench() {
        WatchBench x = bench();
        x.mend(0, 3);
        x.span(0, 41, 50);
        Due.is("keep", x.keep(), 1);
        return x;
    }

    private static void countsAre(String what, WatchBench x, long... due) {
        for (int i = 0; i < due.length; i++) {
            Due.is(what + ": count(" + i + ")", x.count(i), due[i]);
        }
    }

    @Sentence(promise = 33, says = "Causes, readings, mends and spans are kept")
    static void keepKeepsFour() {
        WatchBench x = keptBench();
        changeAll(x);
        countsAre("changed", x, 4, 6, 2, 2);
        x.back();
        countsAre("as kept", x, 3, 5, 1, 1);
        x.cause(0, 0, 0);
        Due.is("what is kept later is in the former's place", x.keep(), 1);
        x.cause(0, 0, 0);
        x.back();
        countsAre("as kept later", x, 4, 5, 1, 1);
        WatchBench full = Benches.full();
        full.keep();
        full.drop(19);
        full.back();
        countsAre("the most that can be kept", full, 8, 20, 8, 0);
        Due.is("the last reading of the most", full.reading(19, 1), 147);
        WatchBench empty = new WatchBench();
        Due.is("nothing can be kept, too", empty.keep(), 1);
        empty.cause(0, 0, 0);
        empty.read(0, 0);
        empty.mend(0, 0);
        empty.span(0, 0, 0);
        Due.is("back to it", empty.back(), 1);
        countsAre("nothing", empty, 0, 0, 0, 0);
        empty.cause(1, 1, 1);
        Due.is("another kind then", empty.as(0, 1), 1);
    }

    @Sentence(promise = 33, says = "(not the trial,")
    static void keepDoesNotKeepTheTrial() {
        WatchBench x = new WatchBench();
        x.day(0, 3);
        x.keep();
        x.day(0, 5);
        x.back();
        Due.is("days", x.count(4), 2);
        Due.is("mean", x.mean(-1, false), 4);
        x.anew();
        x.back();
        Due.is("days that are no more", x.count(4), 0);
    }

    @Sentence(promise = 33, says = "sheets,")
    static void keepDoesNotKeepSheets() {
        WatchBench x = new WatchBench();
        x.sheet(0, 2);
        x.put(0, 0, 3);
        x.sheet(1, 1);
        x.keep();
        x.put(0, 1, 4);
        x.sheet(1, -1);
        x.sheet(2, 1);
        x.back();
        Due.is("what was put since", x.lay(0, 2), 2);
        Due.is("missing since", x.lay(1, 0), Due.NONE);
        Due.is("made since", x.put(2, 0, 1), 1);
    }

    @Sentence(promise = 33, says = "what waits,")
    static void keepDoesNotKeepWhatWaits() {
        WatchBench x = bench();
        x.tell(204);
        x.keep();
        x.tell(5);
        x.back();
        Due.is("numbers that wait", x.count(5), 2);
        x.find(1);
        Due.is("are these", x.check(), 0);
        x.back();
        Due.is("none waits", x.count(5), 0);
    }

    @Sentence(promise = 33, says = "or what was found): 1.")
    static void keepDoesNotKeepWhatWasFound() {
        WatchBench x = keptBench();
        Due.is("it stays found", x.model(), 5);
        Due.is("with its sizes", x.size(2, false), 35);
        Due.is("keep once more", x.keep(), 1);
        x.read(0, 0);
        Due.is("and grows stale", x.model(), Due.STALE);
        x.back();
        Due.is("it is not there behind back()", x.model(), Due.NONE);
        x.find(0);
        long refused = x.found(1);
        x.back();
        Due.is("found() goes on counting", x.found(1), refused);
    }

    @Sentence(promise = 34, says = "They are as they were kept;")
    static void backBringsAllFour() {
        WatchBench x = keptBench();
        changeAll(x);
        x.back();
        Due.is("no cause more", x.shows(3, 0), Due.BEYOND);
        int[][] readings = {{0, 50}, {12, 80}, {24, 10}, {3, 20}, {18, 44}};
        for (int i = 0; i < 5; i++) {
            Due.is("state", x.reading(i, 0), readings[i][0]);
            Due.is("rate", x.reading(i, 1), readings[i][1]);
        }
        x.find(1);
        Due.is("the mend", x.behind(0, 0, 1, 0, 0, false), x.behind(0, 0, 1, 0, 0, true), 219, 5);
        Due.is("the span's beginning, 204/5 being below it", x.paper(), -1000);
        x.span(0, 40, 50);
        Due.is("another span", x.paper(), 1);
        x.back();
        x.find(1);
        Due.is("the kept span again", x.paper(), -1000);
        x.span(0, 1, 40);
        x.keep();
        x.span(0, 1, 41);
        x.back();
        x.find(1);
        Due.is("the span's end, 204/5 being above it", x.paper(), -1000);
        x.span(0, 1, 0);
        x.keep();
        x.span(0, 0, 0);
        x.back();
        Due.is("no span", x.count(3), 0);
    }

    @Sentence(promise = 34, says = "They are as they were kept;")
    static void backBringsCauses() {
        WatchBench x = new WatchBench();
        x.keep();
        x.cause(0, 0, 0);
        x.back();
        x.cause(2, 1, 2);
        x.cause(3, -1, 2);
        x.keep();
        x.back();
        Due.is("the kind", x.as(1, 3), -1);
        Due.is("the numbers", x.shows(1, 4), 2);
        x.cause(5, 3, 3);
        x.back();
        x.cause(1, 2, 1);
        Due.is("another in the place of one that is gone", x.as(2, 1), 2);
        Due.is("it has its own kind", x.as(2, 5), Due.KIND);
        x.back();
        x.back();
        Due.is("back once more", x.count(0), 2);
    }

    @Sentence(promise = 34, says = "nothing is found: 1.")
    static void backForgetsWhatWasFound() {
        WatchBench x = keptBench();
        Due.is("back", x.back(), 1);
        Due.is("model", x.model(), Due.NONE);
        Due.is("size", x.size(0, false), Due.NONE);
        x.find(5);
        Due.is("found again", x.model(), 5);
        Due.is("back with nothing changed", x.back(), 1);
        Due.is("nothing is found still", x.model(), Due.NONE);
    }

    @Sentence(promise = 34, says = "NONE: nothing was kept.")
    static void backWithNothingKept() {
        WatchBench x = bench();
        Due.is("back", x.back(), Due.NONE);
        Due.is("what was found stays", x.model(), 5);
        countsAre("all stays", x, 3, 5, 0, 0);
        Due.is("of a new object", new WatchBench().back(), Due.NONE);
    }

    /* ---- promise 35: count ---- */

    /** Of what was asked just one for each act, of all else (but for causes) none. */
    private static void countsJust(int what, WatchBench x, long... acts) {
        Due.is("one for each act", x.count(what), acts.length);
        for (int other = 0; other < 6; other++) {
            if (other != what && other != 0) {
                Due.is("no more of " + other, x.count(other), 0);
            }
        }
    }

    @Sentence(promise = 35, says = "0 causes,")
    static void countCauses() {
        WatchBench x = new WatchBench();
        countsJust(0, x);
        countsJust(0, x, x.cause(0, 0, 0), x.cause(1, 1, 1));
        Due.is("the most", Benches.full().count(0), 8);
    }

    @Sentence(promise = 35, says = "1 readings,")
    static void countReadings() {
        WatchBench x = new WatchBench();
        countsJust(1, x);
        countsJust(1, x, x.read(0, 1), x.read(0, 1), x.read(1, 1));
        Due.is("the most", Benches.full().count(1), 20);
    }

    @Sentence(promise = 35, says = "2 mends,")
    static void countMends() {
        WatchBench x = new WatchBench();
        x.cause(0, 0, 0);
        countsJust(2, x);
        countsJust(2, x, x.mend(0, 1), x.mend(0, 1));
        Due.is("the most", Benches.full().count(2), 8);
    }

    @Sentence(promise = 35, says = "3 spans,")
    static void countSpans() {
        WatchBench x = new WatchBench();
        countsJust(3, x);
        countsJust(3, x, x.span(0, 0, 0), x.span(35, 0, 0));
        x.span(0, 1, 1);
        Due.is("one of the same state", x.count(3), 2);
        for (int state = 0; state < 36; state++) {
            x.span(state, 0, 0);
        }
        Due.is("the most", x.count(3), 36);
    }

    @Sentence(promise = 35, says = "4 days,")
    static void countDays() {
        WatchBench x = new WatchBench();
        countsJust(4, x);
        countsJust(4, x, x.day(0, 1), x.day(0, 1));
        Due.is("the most", Benches.full().count(4), 60);
    }

    @Sentence(promise = 35, says = "5 numbers that wait.")
    static void countNumbersThatWait() {
        WatchBench x = new WatchBench();
        countsJust(5, x);
        countsJust(5, x, x.tell(0), x.tell(0));
        Due.is("the most", Benches.full().count(5), 16);
    }

    @Sentence(promise = 35, says = "BEYOND: another what.")
    static void countOfAnotherWhat() {
        WatchBench x = bench();
        Due.takesJust("what", 0, 5, what -> x.count(what));
    }

    /* ---- promise 36: found ---- */

    @Sentence(promise = 36, says = "How many acts have answered a finding LOW - k (k 1 .. 7);")
    static void foundCountsEachFinding() {
        WatchBench x = new WatchBench();
        long[] due = new long[8];
        x.cause(2, 0, 0);
        long[] answers = {x.read(36, 0), x.model(), x.as(0, 4), x.as(0, 1), x.sheet(0, -2), x.find(1), x.few(1),
            x.mean(0, true), x.back(), x.cause(0, 0, 0), x.read(0, 0), x.find(2), x.read(0, 0), x.sum(true), x.spare(),
            x.paper(), x.check(), x.loose(), x.count(9)};
        for (long answer : answers) {
            if (answer < Due.LOW) {
                due[(int) (Due.LOW - answer)]++;
            }
        }
        for (int i = 0; i < 18; i++) {
            due[5] += x.tell(i) == Due.FULL ? 1 : 0;
        }
        long[] byHand = {0, 2, 2, 2, 1, 2, 3, 4};
        for (int k = 1; k <= 7; k++) {
            Due.is("told findings LOW - " + k, due[k], byHand[k]);
            Due.is("found(" + k + ")", x.found(k), byHand[k]);
            Due.is("asking is no finding", x.found(k), byHand[k]);
        }
    }

    @Sentence(promise = 36, says = "How many acts have answered a finding LOW - k (k 1 .. 7);")
    static void foundCountsAsLongAsAnObjectIsUsed() {
        WatchBench x = new WatchBench();
        for (int i = 0; i < 511; i++) {
            x.model();
        }
        Due.is("the last of 512 calls", x.found(2), 511);
    }

    @Sentence(promise = 36, says = "BEYOND: another k (counted, too).")
    static void foundOfAnotherK() {
        WatchBench x = new WatchBench();
        Due.takesJust("k", 1, 7, k -> x.found(k));
        Due.is("the four are counted, too", x.found(1), 4);
        Due.is("and one more", x.found(-7), Due.BEYOND);
        Due.is("counted", x.found(1), 5);
        for (int k = 2; k <= 7; k++) {
            Due.is("no other finding is", x.found(k), 0);
        }
    }
}
