import java.math.BigInteger;

/** Promises 11 to 20. */
public final class FoundTest {
    public static void main(String[] args) {
        find();
        findOpen();
        loose();
        size();
        stale();
        left();
        sumAndForetold();
        model();
        few();
        fewAlike();
        fewFindings();
        doubt();
        spare();
        greatNumbers();
        Due.end();
    }

    /** Causes 0 plain, 1 poise, 2 hair; all three together have sizes 33, 35/2 and 13. */
    private static WatchBench bench() {
        WatchBench x = new WatchBench();
        x.cause(0, 0, 0);
        x.cause(1, 0, 2);
        x.cause(2, 1, -1);
        x.read(0, 50);
        x.read(12, 80);
        x.read(24, 10);
        x.read(3, 20);
        x.read(18, 44);
        return x;
    }

    private static void find() {
        WatchBench x = bench();
        Due.is("find(0)", x.find(0), Due.BEYOND);
        Due.is("find(8)", x.find(8), Due.BEYOND);
        Due.is("find(9)", x.find(9), Due.BEYOND);
        Due.is("find(-1)", x.find(-1), Due.BEYOND);
        Due.is("find(least)", x.find(Integer.MIN_VALUE), Due.BEYOND);
        Due.is("find(256 + 1)", x.find(257), Due.BEYOND);
        Due.is("nothing found", x.model(), Due.NONE);
        Due.is("find(7)", x.find(7), 3);
        Due.is("find(5)", x.find(5), 2);
        Due.is("find(2)", x.find(2), 1);
        for (int c = 3; c < 8; c++) {
            x.cause(4, c - 5, 1);
        }
        Due.is("five causes", x.find(31), Due.BEYOND);
        Due.is("all eight", x.find(255), Due.BEYOND);
        Due.is("a ninth", x.find(256), Due.BEYOND);
        Due.is("BEYOND leaves what was found, stale as it is", x.size(1, false), Due.STALE);
    }

    private static void findOpen() {
        WatchBench x = new WatchBench();
        x.cause(0, 0, 0);
        x.cause(1, 0, 1);
        Due.is("without readings", x.find(1), Due.OPEN);
        Due.is("its loose", x.loose(), 1);
        x.read(0, 10);
        Due.is("find(1)", x.find(1), 1);
        Due.is("poise lying", x.find(2), Due.OPEN);
        Due.is("its loose", x.loose(), 2);
        Due.is("OPEN leaves what was found", x.model(), 1);
        Due.is("and its sizes", x.size(0, false), 10);
        Due.is("both", x.find(3), Due.OPEN);
        Due.is("only the second is loose", x.loose(), 2);
    }

    private static void loose() {
        WatchBench x = new WatchBench();
        x.cause(2, 1, 2);
        x.cause(2, 2, 1);
        x.cause(0, 0, 0);
        x.cause(1, 0, 1);
        x.cause(4, 0, 0);
        x.read(0, 1);
        x.read(3, 2);
        x.read(12, 3);
        Due.is("loose before any OPEN", x.loose(), 0);
        Due.is("hair twice and plain", x.find(7), Due.OPEN);
        Due.is("all three", x.loose(), 7);
        Due.is("with poise, which is told", x.find(15), Due.OPEN);
        Due.is("poise isn't loose", x.loose(), 7);
        Due.is("a firm find", x.find(3), 2);
        Due.is("leaves loose", x.loose(), 7);
        Due.is("BEYOND", x.find(0), Due.BEYOND);
        Due.is("leaves loose", x.loose(), 7);
        Due.is("a cause that shows nothing", x.find(17), Due.OPEN);
        Due.is("is loose alone", x.loose(), 16);
        Due.is("both kinds", x.find(23), Due.OPEN);
        Due.is("are loose", x.loose(), 23);
        Due.is("three firm ones and nothing", x.find(27), Due.OPEN);
        Due.is("is loose alone", x.loose(), 16);
        x.keep();
        x.back();
        Due.is("back() leaves loose", x.loose(), 16);
    }

    private static void size() {
        WatchBench x = bench();
        Due.is("nothing found", x.size(99, false), Due.NONE);
        x.find(1);
        Due.is("size 0", x.size(0, false), x.size(0, true), 204, 5);
        Due.is("not in the model", x.size(1, false), Due.BEYOND);
        x.find(6);
        Due.is("not in the model", x.size(0, false), Due.BEYOND);
        Due.is("size(-1)", x.size(-1, true), Due.BEYOND);
        Due.is("size(33): 33 is 1 behind a shift", x.size(33, true), Due.BEYOND);
        Due.is("size(34)", x.size(34, false), Due.BEYOND);
        Due.is("size(3)", x.size(3, false), Due.BEYOND);
        x.find(7);
        Due.is("size 0", x.size(0, false), x.size(0, true), 33, 1);
        Due.is("size 1", x.size(1, false), x.size(1, true), 35, 2);
        Due.is("size 2", x.size(2, false), x.size(2, true), 13, 1);
        WatchBench y = new WatchBench();
        y.cause(1, 2, 3);
        y.read(12, 1);
        y.read(24, 0);
        y.find(1);
        Due.is("less than 0", y.size(0, false), y.size(0, true), -1, 6);
        y.read(24, -1);
        y.read(12, 1);
        y.read(24, 2);
        y.find(1);
        Due.is("size", y.size(0, false), y.size(0, true), -1, 15);
        y.drop(4);
        y.read(24, 3);
        y.find(1);
        Due.is("nothing", y.size(0, false), y.size(0, true), 0, 1);
    }

    private static void staleBehind(String what, WatchBench x, long answer, long due, boolean stale) {
        Due.is(what, answer, due);
        Due.is(what + ": size", x.size(1, false), stale ? Due.STALE : 35);
        Due.is(what + ": size of none", x.size(9, false), stale ? Due.STALE : Due.BEYOND);
        Due.is(what + ": left", x.left(99, false), stale ? Due.STALE : Due.BEYOND);
        Due.is(what + ": sum", x.sum(true), stale ? Due.STALE : 1);
        Due.is(what + ": foretold", x.foretold(-1, false), stale ? Due.STALE : Due.BEYOND);
        Due.is(what + ": model", x.model(), stale ? Due.STALE : 7);
        Due.is(what + ": doubt", x.doubt(9, false, false), stale ? Due.STALE : Due.BEYOND);
        Due.is(what + ": spare", x.spare(), stale ? Due.STALE : 4);
        Due.is(what + ": behind", x.behind(-1, 0, 0, 0, 0, false), stale ? Due.STALE : Due.BEYOND);
        Due.is(what + ": worst", x.worst(false), stale ? Due.STALE : Due.OPEN);
        Due.is(what + ": best", x.best(), stale ? Due.STALE : Due.OPEN);
        Due.is(what + ": paper", x.paper(), stale ? Due.STALE : Due.OPEN);
        Due.is(what + ": check", x.check(), stale ? Due.STALE : 1);
    }

    private static WatchBench foundBench() {
        WatchBench x = bench();
        x.sheet(0, 2);
        x.find(7);
        return x;
    }

    private static void stale() {
        WatchBench x = foundBench();
        staleBehind("tell", x, x.tell(1), 1, false);
        staleBehind("mend", x, x.mend(0, 1), 0, false);
        staleBehind("day", x, x.day(0, 1), 1, false);
        staleBehind("put", x, x.put(0, 0, 1), 1, false);
        staleBehind("sheet", x, x.sheet(1, 1), 1, false);
        staleBehind("keep", x, x.keep(), 1, false);
        staleBehind("refused cause", x, x.cause(9, 0, 0), Due.BEYOND, false);
        staleBehind("refused read", x, x.read(0, 301), Due.BEYOND, false);
        staleBehind("refused drop", x, x.drop(5), Due.BEYOND, false);
        staleBehind("refused lay", x, x.lay(0, 3), Due.BEYOND, false);
        staleBehind("cause", x, x.cause(0, 0, 0), 3, true);
        Due.is("found anew", x.find(7), 3);
        staleBehind("shows", x, x.shows(0, 0), 1, false);
        staleBehind("few without an answer", x, x.few(0), Due.BEYOND, false);
        Due.is("STALE counted", x.found(7), 13);
        WatchBench read = foundBench();
        staleBehind("read", read, read.read(0, 0), 5, true);
        WatchBench drop = foundBench();
        staleBehind("drop", drop, drop.drop(0), 4, true);
        WatchBench lay = foundBench();
        staleBehind("lay of nothing", lay, lay.lay(0, 0), 5, true);
    }

    private static void left() {
        WatchBench x = bench();
        Due.is("nothing found", x.left(0, false), Due.NONE);
        x.find(7);
        long[][] due = {{4, 1}, {-1, 1}, {-1, 1}, {0, 1}, {-2, 1}};
        for (int i = 0; i < 5; i++) {
            Due.is("left(" + i + ")", x.left(i, false), x.left(i, true), due[i][0], due[i][1]);
        }
        Due.is("left(5)", x.left(5, false), Due.BEYOND);
        Due.is("left(-1)", x.left(-1, true), Due.BEYOND);
        x.find(1);
        Due.is("left(0) of a mean", x.left(0, false), x.left(0, true), 46, 5);
    }

    private static void sumAndForetold() {
        WatchBench x = bench();
        Due.is("nothing found", x.sum(true), Due.NONE);
        Due.is("nothing found", x.foretold(99, true), Due.NONE);
        x.find(7);
        Due.is("sum", x.sum(false), x.sum(true), 22, 1);
        Due.is("foretold dial up", x.foretold(0, false), x.foretold(0, true), 46, 1);
        Due.is("foretold hanging", x.foretold(12, false), x.foretold(12, true), 81, 1);
        Due.is("foretold run down", x.foretold(27, false), x.foretold(27, true), -15, 1);
        Due.is("foretold(36)", x.foretold(36, false), Due.BEYOND);
        Due.is("foretold(-1)", x.foretold(-1, false), Due.BEYOND);
        x.find(2);
        Due.is("foretold of poise lying", x.foretold(0, false), x.foretold(0, true), 0, 1);
        WatchBench y = new WatchBench();
        y.cause(0, 0, 0);
        y.read(0, 7);
        y.find(1);
        Due.is("nothing left", y.sum(false), y.sum(true), 0, 1);
    }

    private static void model() {
        WatchBench x = bench();
        Due.is("nothing found", x.model(), Due.NONE);
        x.find(5);
        Due.is("model", x.model(), 5);
        x.find(8);
        Due.is("a refused find changes nothing", x.model(), 5);
        Due.is("few", x.few(1), 1);
        Due.is("few finds", x.model(), 1);
    }

    private static void few() {
        WatchBench x = bench();
        Due.is("few(1)", x.few(1), 1);
        Due.is("its size", x.size(0, false), x.size(0, true), 204, 5);
        Due.is("few(2)", x.few(2), 3);
        Due.is("few(3)", x.few(3), 7);
        Due.is("its sum", x.sum(false), 22);
        WatchBench y = new WatchBench();
        y.cause(2, 0, 0);
        y.cause(1, 1, 1);
        y.cause(0, 0, 0);
        y.read(0, 9);
        Due.is("those that aren't firm are left out", y.few(3), 4);
    }

    private static void fewAlike() {
        WatchBench x = new WatchBench();
        x.cause(2, 2, 2);
        x.cause(0, 0, 0);
        x.cause(2, 1, 2);
        x.read(0, 50);
        x.read(6, 50);
        Due.is("all leave nothing: one cause, the least set", x.few(3), 1);
        WatchBench y = new WatchBench();
        y.cause(2, 1, 0);
        y.cause(2, 0, 1);
        y.cause(2, 1, -1);
        y.cause(0, 0, 0);
        y.read(0, 50);
        y.read(3, 50);
        Due.is("one of more beats two of the least", y.few(3), 8);
        y.read(6, 48);
        y.read(9, 47);
        Due.is("of alike pairs the least set", y.few(3), 3);
        Due.is("few(1)", y.few(1), 8);
    }

    private static void fewFindings() {
        WatchBench x = new WatchBench();
        Due.is("few(0)", x.few(0), Due.BEYOND);
        Due.is("few(4)", x.few(4), Due.BEYOND);
        Due.is("few(-1)", x.few(-1), Due.BEYOND);
        Due.is("no causes", x.few(3), Due.NONE);
        x.cause(1, 0, 1);
        x.cause(5, 0, 1);
        x.cause(2, 0, 1);
        x.read(0, 1);
        Due.is("none is firm", x.few(2), Due.OPEN);
        Due.is("all are told", x.loose(), 7);
        Due.is("nothing found", x.model(), Due.NONE);
        x.cause(0, 0, 0);
        Due.is("one is firm", x.few(2), 8);
        Due.is("loose stays", x.loose(), 7);
        x.drop(0);
        Due.is("OPEN without readings", x.few(1), Due.OPEN);
        Due.is("all four", x.loose(), 15);
        Due.is("what was found is stale, not gone", x.model(), Due.STALE);
    }

    private static void doubt() {
        WatchBench x = bench();
        Due.is("nothing found", x.doubt(9, false, false), Due.NONE);
        x.find(7);
        Due.is("not in the model", x.doubt(3, false, false), Due.BEYOND);
        Due.is("not in the model", x.doubt(-1, false, false), Due.BEYOND);
        Due.is("not in the model", x.doubt(32, false, false), Due.BEYOND);
        Due.is("least of 1", x.doubt(1, false, false), x.doubt(1, false, true), 33, 2);
        Due.is("most of 1", x.doubt(1, true, false), x.doubt(1, true, true), 37, 2);
        Due.is("it changes nothing", x.size(1, false), x.size(1, true), 35, 2);
        WatchBench y = new WatchBench();
        y.cause(0, 0, 0);
        y.read(0, 6);
        y.find(1);
        Due.is("firm without none", y.doubt(0, true, false), Due.OPEN);
        y.read(1, 13);
        y.read(2, 20);
        y.find(1);
        Due.is("least", y.doubt(0, false, false), y.doubt(0, false, true), 19, 2);
        Due.is("most", y.doubt(0, true, false), y.doubt(0, true, true), 33, 2);
        for (int i = 0; i < 3; i++) {
            y.drop(0);
            y.read(0, -7 - i);
        }
        y.find(1);
        Due.is("least, all below 0", y.doubt(0, false, false), y.doubt(0, false, true), -17, 2);
        Due.is("most, all below 0", y.doubt(0, true, false), y.doubt(0, true, true), -15, 2);
        WatchBench z = new WatchBench();
        z.cause(0, 0, 0);
        z.cause(1, 0, 1);
        z.read(0, 6);
        z.read(0, 8);
        z.read(12, 9);
        z.find(3);
        Due.is("those without which it isn't firm are left out", z.doubt(1, false, false), 1);
        Due.is("most", z.doubt(1, true, false), 3);
    }

    private static void spare() {
        WatchBench x = bench();
        Due.is("nothing found", x.spare(), Due.NONE);
        x.find(7);
        Due.is("spare of three", x.spare(), 4);
        x.find(1);
        Due.is("spare of one", x.spare(), 5);
        WatchBench y = new WatchBench();
        y.cause(0, 0, 0);
        y.read(0, 6);
        y.find(1);
        Due.is("none", y.spare(), 0);
    }

    /** Twenty readings with the greatest of all numbers: sizes and what is left stay exact. */
    private static void greatNumbers() {
        WatchBench x = new WatchBench();
        x.cause(3, 2, -2);
        x.cause(5, 0, 3);
        x.cause(5, 1, 3);
        x.cause(3, -2, 2);
        int[] states = {12, 15, 18, 21, 24, 27, 30, 33, 12, 15, 18, 21, 24, 27, 30, 33, 12, 18, 24, 30};
        for (int i = 0; i < states.length; i++) {
            x.read(states[i], i % 3 == 0 ? -300 : 300 - i);
        }
        Due.is("find(15)", x.find(15), 4);
        BigInteger above = BigInteger.ZERO;
        BigInteger below = BigInteger.ONE;
        for (int i = 0; i < states.length; i++) {
            BigInteger a = BigInteger.valueOf(x.left(i, false));
            BigInteger b = BigInteger.valueOf(x.left(i, true));
            above = above.multiply(b).multiply(b).add(a.multiply(a).multiply(below));
            below = below.multiply(b).multiply(b);
        }
        BigInteger common = above.gcd(below);
        Due.is("sum above", x.sum(false), above.divide(common).longValueExact());
        Due.is("sum below", x.sum(true), below.divide(common).longValueExact());
    }
}
