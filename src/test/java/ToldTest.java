/** Promises 31 to 36. */
public final class ToldTest {
    public static void main(String[] args) {
        tell();
        check();
        checkTerms();
        checkFindings();
        keepAndBack();
        keptApart();
        count();
        found();
        Due.end();
    }

    private static void tell() {
        WatchBench x = new WatchBench();
        for (int i = 1; i <= 16; i++) {
            Due.is("waiting", x.tell(i % 2 == 0 ? Integer.MIN_VALUE : Integer.MAX_VALUE), i);
        }
        Due.is("seventeenth", x.tell(0), Due.FULL);
        Due.is("waiting", x.count(5), 16);
    }

    /** Sizes 204/5 of cause 0, 35/2 of cause 2; causes 1 and 3 are not in the model. */
    private static WatchBench bench() {
        WatchBench x = new WatchBench();
        x.cause(0, 0, 0);
        x.cause(2, 1, -1);
        x.cause(1, 0, 2);
        x.read(0, 50);
        x.read(12, 80);
        x.read(24, 10);
        x.read(3, 20);
        x.read(18, 44);
        x.find(5);
        return x;
    }

    private static void judged(String what, WatchBench x, long due, int... numbers) {
        for (int number : numbers) {
            x.tell(number);
        }
        Due.is(what, x.check(), due);
        Due.is(what + ": none wait then", x.count(5), 0);
    }

    private static void check() {
        WatchBench x = bench();
        judged("nothing told", x, 1);
        judged("half of the first", x, 1, 204);
        judged("the first alone", x, 2, 204, 5);
        judged("half of the second", x, 2, 204, 5, 35);
        judged("just these", x, 0, 204, 5, 35, 2);
        judged("one more", x, 100, 204, 5, 35, 2, 0);
        judged("two more", x, 100, 204, 5, 35, 2, 35, 2);
        judged("the first wrong", x, 1, 204, 6, 35, 2);
        judged("the second wrong", x, 2, 204, 5, 35, 3);
        judged("the second wrong, and more", x, 2, 204, 5, 34, 2, 7);
        judged("the first wrong and the second missing", x, 1, 203, 5);
        judged("sixteen", x, 100, 204, 5, 35, 2, 1, 1, 1, 1, 1, 1, 1, 1, 1, 1, 1, 1);
        judged("just these once more", x, 0, 204, 5, 35, 2);
    }

    private static void checkTerms() {
        WatchBench x = bench();
        judged("other terms", x, 0, 408, 10, 350, 20);
        judged("both below 0", x, 0, -204, -5, -35, -2);
        judged("one below 0", x, 1, -204, 5, 35, 2);
        judged("below is 0", x, 1, 204, 0, 35, 2);
        judged("below of the second is 0", x, 2, 204, 5, 35, 0);
        judged("the greatest terms", x, 0, 2147483520, 52634400, 35, 2);
        judged("beside them", x, 1, 2147483520, 52634399, 35, 2);
        WatchBench y = new WatchBench();
        y.cause(0, 0, 0);
        y.read(0, 1);
        y.read(0, -1);
        y.find(1);
        judged("nothing, over 1", y, 0, 0, 1);
        judged("nothing, over the least", y, 0, 0, Integer.MIN_VALUE);
        judged("nothing over nothing", y, 1, 0, 0);
        y.drop(0);
        y.find(1);
        judged("-1", y, 0, Integer.MAX_VALUE, -Integer.MAX_VALUE);
        judged("1 is not -1", y, 1, Integer.MIN_VALUE, Integer.MIN_VALUE);
        judged("nearly -1", y, 1, Integer.MIN_VALUE, Integer.MAX_VALUE);
        y.drop(0);
        y.read(0, 1);
        y.find(1);
        judged("1", y, 0, Integer.MIN_VALUE, Integer.MIN_VALUE);
    }

    private static void checkFindings() {
        WatchBench x = new WatchBench();
        x.tell(1);
        Due.is("nothing found", x.check(), Due.NONE);
        Due.is("none wait then", x.count(5), 0);
        WatchBench y = bench();
        y.tell(204);
        y.read(0, 0);
        Due.is("stale", y.check(), Due.STALE);
        Due.is("none wait then", y.count(5), 0);
        Due.is("the first again", y.tell(1), 1);
    }

    private static void keepAndBack() {
        WatchBench x = bench();
        Due.is("nothing kept", x.back(), Due.NONE);
        Due.is("what was found stays", x.model(), 5);
        x.mend(0, 3);
        x.span(0, 1, 2);
        Due.is("keep", x.keep(), 1);
        Due.is("what was found stays", x.model(), 5);
        x.cause(3, 1, 1);
        x.drop(1);
        x.read(35, 7);
        x.read(35, 8);
        x.mend(3, 9);
        x.span(0, 5, 6);
        x.span(1, 5, 6);
        x.day(0, 4);
        x.tell(9);
        x.sheet(0, 2);
        Due.is("back", x.back(), 1);
        long[] due = {3, 5, 1, 1, 1, 1};
        for (int what = 0; what < 6; what++) {
            Due.is("count(" + what + ") behind back", x.count(what), due[what]);
        }
        Due.is("nothing is found", x.model(), Due.NONE);
        Due.is("readings are as they were", x.reading(1, 0), 12);
        Due.is("readings are as they were", x.reading(1, 1), 80);
        Due.is("readings are as they were", x.reading(4, 1), 44);
        Due.is("the sheet stays", x.put(0, 1, 3), 3);
        Due.is("find anew", x.find(1), 1);
        Due.is("the mend is as it was", x.behind(0, 0, 1, 0, 0, false), 204 + 15);
        Due.is("the span is as it was", x.worst(false), 204);
        x.span(0, 1, 41);
        Due.is("the span holds it", x.paper(), 1);
        Due.is("back once more", x.back(), 1);
        x.find(1);
        Due.is("the kept span doesn't, for its end", x.paper(), -1000);
        x.span(0, 41, 50);
        x.keep();
        x.span(0, 40, 50);
        x.back();
        x.find(1);
        Due.is("the kept span doesn't, for its beginning", x.paper(), -1000);
    }

    private static void keptApart() {
        WatchBench x = new WatchBench();
        x.cause(1, 0, 1);
        x.keep();
        x.back();
        Due.is("cause 1", x.cause(2, 1, 2), 1);
        Due.is("cause 2", x.cause(3, 1, 2), 2);
        x.keep();
        x.back();
        Due.is("the kept kind", x.as(2, 3), 1);
        Due.is("the kept numbers", x.shows(2, 4), 2);
        WatchBench y = new WatchBench();
        y.keep();
        y.cause(0, 0, 0);
        y.read(0, 0);
        y.back();
        Due.is("nothing was kept, and that is so again", y.count(0) + y.count(1), 0);
        y.cause(1, 1, 1);
        Due.is("another kind then", y.as(0, 1), 1);
        Due.is("back to nothing", y.back(), 1);
        Due.is("no cause", y.shows(0, 0), Due.BEYOND);
        Due.is("findings stay counted", y.found(1), 1);
    }

    private static void count() {
        WatchBench x = bench();
        x.mend(0, 1);
        x.mend(0, 1);
        x.span(3, 0, 0);
        for (int i = 0; i < 7; i++) {
            x.day(i, i);
            x.tell(i);
        }
        x.tell(0);
        long[] due = {3, 5, 2, 1, 7, 8};
        for (int what = 0; what < 6; what++) {
            Due.is("count(" + what + ")", x.count(what), due[what]);
        }
        Due.is("count(-1)", x.count(-1), Due.BEYOND);
        Due.is("count(6)", x.count(6), Due.BEYOND);
    }

    private static void found() {
        WatchBench x = new WatchBench();
        Due.is("found(0)", x.found(0), Due.BEYOND);
        Due.is("found(8)", x.found(8), Due.BEYOND);
        Due.is("found(-1)", x.found(-1), Due.BEYOND);
        Due.is("counted, too", x.found(1), 3);
        x.model();
        x.cause(2, 0, 0);
        x.as(0, 4);
        x.as(0, 1);
        x.sheet(0, -2);
        for (int i = 0; i < 18; i++) {
            x.tell(i);
        }
        x.find(1);
        x.few(1);
        x.mean(0, true);
        x.cause(0, 0, 0);
        x.read(0, 0);
        x.find(2);
        x.read(0, 0);
        x.model();
        x.sum(true);
        x.sum(false);
        x.spare();
        long[] due = {3, 1, 2, 1, 2, 3, 4};
        for (int k = 1; k <= 7; k++) {
            Due.is("found(" + k + ")", x.found(k), due[k - 1]);
        }
    }
}
