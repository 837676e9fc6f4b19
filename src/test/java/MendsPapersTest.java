/** Promises 21 to 26. */
public final class MendsPapersTest {
    public static void main(String[] args) {
        mend();
        span();
        behind();
        worst();
        best();
        bestAlike();
        bestOfMost();
        paper();
        Due.end();
    }

    /** Sizes 95 of cause 0 and 35/2 of cause 1; cause 2 is not in the model. */
    private static WatchBench bench() {
        WatchBench x = new WatchBench();
        x.cause(0, 0, 0);
        x.cause(1, 0, 2);
        x.cause(2, 1, 1);
        x.read(0, 95);
        x.read(12, 130);
        x.read(24, 60);
        x.find(3);
        return x;
    }

    private static void mend() {
        WatchBench x = new WatchBench();
        Due.is("no such cause", x.mend(0, 1), Due.BEYOND);
        x.cause(0, 0, 0);
        Due.is("no such cause", x.mend(1, 1), Due.BEYOND);
        Due.is("no such cause", x.mend(-1, 1), Due.BEYOND);
        Due.is("by 201", x.mend(0, 201), Due.BEYOND);
        Due.is("by -201", x.mend(0, -201), Due.BEYOND);
        for (int m = 0; m < 8; m++) {
            Due.is("mend number", x.mend(0, m % 2 == 0 ? -200 : 200), m);
        }
        Due.is("ninth mend", x.mend(0, 0), Due.FULL);
        Due.is("ninth mend, wrong", x.mend(0, 999), Due.BEYOND);
        Due.is("mends", x.count(2), 8);
    }

    private static void span() {
        WatchBench x = new WatchBench();
        Due.is("span(-1, ..)", x.span(-1, 0, 0), Due.BEYOND);
        Due.is("span(36, ..)", x.span(36, 0, 0), Due.BEYOND);
        Due.is("from -1001", x.span(0, -1001, 0), Due.BEYOND);
        Due.is("from 1001", x.span(0, 1001, 0), Due.BEYOND);
        Due.is("to 1001", x.span(0, 0, 1001), Due.BEYOND);
        Due.is("to -1001", x.span(0, 0, -1001), Due.BEYOND);
        Due.is("no spans", x.count(3), 0);
        Due.is("greatest span", x.span(35, -1000, 1000), 1);
        Due.is("one rate", x.span(0, 7, 7), 1);
        Due.is("spans", x.count(3), 2);
        Due.is("span once more", x.span(0, 8, 9), 1);
        Due.is("spans", x.count(3), 2);
        Due.is("from above to", x.span(35, 1000, -1000), 0);
        Due.is("spans", x.count(3), 1);
        Due.is("from above to, without one", x.span(1, 1, 0), 0);
        Due.is("spans", x.count(3), 1);
    }

    private static void behind() {
        WatchBench n = new WatchBench();
        Due.is("nothing found", n.behind(99, 99, 99, 99, 99, true), Due.NONE);
        WatchBench x = bench();
        x.mend(0, -10);
        x.mend(1, 7);
        x.mend(2, 100);
        Due.is("no steps", x.behind(12, 0, 0, 1, 0, false), 130);
        Due.is("one mend", x.behind(12, 0, 3, 1, 0, false), 100);
        Due.is("two mends", x.behind(12, 0, 3, 1, -3, false), 58);
        Due.is("at the opposite", x.behind(24, 0, 3, 1, -3, false), 72);
        Due.is("the same once more", x.behind(12, 1, 3, 1, 2, false), 200);
        Due.is("the same there and back", x.behind(12, 1, -3, 1, 3, false), 130);
        Due.is("a cause that isn't in the model", x.behind(12, 2, 3, 0, 1, false), 120);
        Due.is("a whole number's below", x.behind(12, 2, 3, 0, 1, true), 1);
        Due.is("state 36", x.behind(36, 0, 0, 1, 0, false), Due.BEYOND);
        Due.is("state -1", x.behind(-1, 0, 0, 1, 0, false), Due.BEYOND);
        Due.is("mend 3", x.behind(0, 3, 0, 1, 0, false), Due.BEYOND);
        Due.is("mend -1", x.behind(0, -1, 0, 1, 0, false), Due.BEYOND);
        Due.is("other 3", x.behind(0, 0, 0, 3, 0, false), Due.BEYOND);
        Due.is("other -1", x.behind(0, 0, 0, -1, 0, false), Due.BEYOND);
        Due.is("steps 4", x.behind(0, 0, 4, 1, 0, false), Due.BEYOND);
        Due.is("steps -4", x.behind(0, 0, -4, 1, 0, false), Due.BEYOND);
        Due.is("more 4", x.behind(0, 0, 0, 1, 4, false), Due.BEYOND);
        Due.is("more -4", x.behind(0, 0, 0, 1, -4, false), Due.BEYOND);
        x.read(6, 96);
        Due.is("stale", x.behind(0, 0, 0, 1, 0, false), Due.STALE);
        x.find(3);
        Due.is("a fraction", x.behind(0, 0, 1, 1, 0, false), x.behind(0, 0, 1, 1, 0, true), 341, 4);
    }

    private static void worst() {
        WatchBench n = new WatchBench();
        Due.is("nothing found", n.worst(false), Due.NONE);
        WatchBench x = bench();
        Due.is("no span", x.worst(false), Due.OPEN);
        x.span(0, 500, 600);
        Due.is("one state", x.worst(false), 95);
        x.span(12, 0, 0);
        x.span(24, 0, 0);
        Due.is("three states", x.worst(false), x.worst(true), 130, 1);
        x.span(12, 1, 0);
        Due.is("without a span it is not looked at", x.worst(false), 95);
        WatchBench y = new WatchBench();
        y.cause(0, 0, 0);
        y.read(0, -7);
        y.read(0, -8);
        y.find(1);
        y.span(35, 0, 0);
        Due.is("without sign", y.worst(false), y.worst(true), 15, 2);
        y.read(0, 0);
        Due.is("stale", y.worst(false), Due.STALE);
    }

    private static long code(int m, int s, int n, int t) {
        return 10000 * (m + 1) + 1000 * (s + 3) + 10 * (n + 1) + (t + 3);
    }

    private static void best() {
        WatchBench n = new WatchBench();
        Due.is("nothing found", n.best(), Due.NONE);
        WatchBench x = bench();
        Due.is("no span", x.best(), Due.OPEN);
        x.span(0, 0, 0);
        Due.is("no mends", x.best(), code(-1, 0, -1, 0));
        x.mend(0, 30);
        Due.is("one mend", x.best(), code(0, -3, -1, 0));
        x.mend(0, 5);
        Due.is("two mends", x.best(), code(0, -3, 1, -1));
        x.span(12, 0, 0);
        Due.is("two states", x.best(), code(0, -3, 1, -3));
        x.mend(1, -6);
        Due.is("the second mend of poise", x.best(), code(0, -3, 2, 3));
        Due.is("what is found stays", x.size(0, false), 95);
    }

    private static void bestAlike() {
        WatchBench x = new WatchBench();
        x.cause(0, 0, 0);
        x.cause(2, 1, 1);
        x.read(0, 30);
        x.find(1);
        x.span(0, 0, 0);
        x.mend(1, 10);
        x.mend(0, 0);
        Due.is("mends that do nothing are no better", x.best(), code(-1, 0, -1, 0));
        x.mend(0, 10);
        Due.is("one is fewer than two", x.best(), code(2, -3, -1, 0));
        x.mend(0, -10);
        x.mend(0, 15);
        Due.is("the lesser first mend of alike ones", x.best(), code(2, -3, -1, 0));
        WatchBench y = new WatchBench();
        y.cause(0, 0, 0);
        y.read(0, 40);
        y.find(1);
        y.span(9, 0, 0);
        y.mend(0, 10);
        y.mend(0, 10);
        y.mend(0, 20);
        Due.is("one of the last alone", y.best(), code(2, -2, -1, 0));
        WatchBench z = new WatchBench();
        z.cause(0, 0, 0);
        z.read(0, 40);
        z.find(1);
        z.span(9, 0, 0);
        z.mend(0, 10);
        z.mend(0, 10);
        z.mend(0, 10);
        Due.is("lower steps first, then the lesser second", z.best(), code(0, -3, 1, -1));
        WatchBench w = new WatchBench();
        w.cause(0, 0, 0);
        w.read(0, 50);
        w.find(1);
        w.span(9, 0, 0);
        w.mend(0, 0);
        w.mend(0, 10);
        w.mend(0, 1);
        w.mend(0, 30);
        Due.is("lower steps of the first mend", w.best(), code(1, -2, 3, -1));
        w.read(0, 0);
        Due.is("stale", w.best(), Due.STALE);
    }

    /** Spans in all states and as many mends as there may be; the last two mends are the good ones. */
    private static void bestOfMost() {
        WatchBench x = bench();
        for (int state = 0; state < 36; state++) {
            x.span(state, -1000, 1000);
        }
        for (int m = 0; m < 6; m++) {
            x.mend(2, 200);
        }
        x.mend(1, 5);
        x.mend(0, 50);
        Due.is("worst of all states", x.worst(false), 130);
        Due.is("the last two of eight", x.best(), code(6, -3, 7, -2));
        Due.is("in all spans", x.paper(), 1);
    }

    private static void paper() {
        WatchBench n = new WatchBench();
        Due.is("nothing found", n.paper(), Due.NONE);
        WatchBench x = bench();
        Due.is("no span", x.paper(), Due.OPEN);
        x.span(12, 130, 1000);
        Due.is("just from", x.paper(), 1);
        x.span(24, -1000, 60);
        Due.is("just to", x.paper(), 1);
        x.span(24, 61, 61);
        Due.is("below from", x.paper(), 24 - 1000);
        x.span(12, 129, 129);
        Due.is("the first one", x.paper(), 12 - 1000);
        x.span(0, 1, 94);
        Due.is("state 0", x.paper(), -1000);
        WatchBench y = new WatchBench();
        y.cause(0, 0, 0);
        y.read(0, -7);
        y.read(0, -8);
        y.find(1);
        y.span(35, -8, -7);
        Due.is("a fraction within", y.paper(), 1);
        y.span(35, -7, 0);
        Due.is("a fraction below", y.paper(), 35 - 1000);
        y.span(35, -9, -8);
        Due.is("a fraction above", y.paper(), 35 - 1000);
        y.drop(0);
        Due.is("stale", y.paper(), Due.STALE);
    }
}
