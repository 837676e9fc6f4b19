import java.util.function.ToLongFunction;

/** What all acts that tell of what was found have in common: NONE, and STALE. */
final class FoundActs {
    private FoundActs() {
    }

    /** A found model, mends, spans and a sheet: each act on what was found answers no finding. */
    static WatchBench ready() {
        WatchBench x = Benches.foundWatch();
        x.mend(0, -10);
        x.mend(1, 5);
        x.span(0, -20, 20);
        x.span(12, -20, 30);
        x.sheet(0, 2);
        x.put(0, 0, 5);
        x.keep();
        return x;
    }

    static void noneWithout(ToLongFunction<WatchBench> act) {
        Due.is("on a new object", act.applyAsLong(new WatchBench()), Due.NONE);
        WatchBench refused = new WatchBench();
        refused.cause(0, 0, 0);
        refused.find(0);
        refused.find(1);
        refused.few(1);
        Due.is("behind refused finds alone", act.applyAsLong(refused), Due.NONE);
        WatchBench gone = ready();
        gone.back();
        Due.is("behind back()", act.applyAsLong(gone), Due.NONE);
        gone.read(0, 0);
        Due.is("behind back() and read()", act.applyAsLong(gone), Due.NONE);
        gone.find(7);
        Due.holds("found again it isn't NONE", act.applyAsLong(gone) > Due.LOW);
    }

    private static void staleBehind(String what, ToLongFunction<WatchBench> change, ToLongFunction<WatchBench> act) {
        WatchBench x = ready();
        Due.holds("ahead of " + what + " it answers", act.applyAsLong(x) > Due.LOW);
        Due.holds(what + " is done", change.applyAsLong(x) > Due.LOW);
        Due.is("behind " + what, act.applyAsLong(x), Due.STALE);
        Due.is("and still so", act.applyAsLong(x), Due.STALE);
        x.find(7);
        Due.holds("found anew behind " + what + " it answers", act.applyAsLong(x) > Due.LOW);
    }

    static void staleBehindChanges(ToLongFunction<WatchBench> act) {
        staleBehind("cause()", x -> x.cause(4, 1, 1), act);
        staleBehind("read()", x -> x.read(0, 50), act);
        staleBehind("drop()", x -> x.drop(0), act);
        staleBehind("lay()", x -> x.lay(0, 1), act);
        staleBehind("lay() of no place", x -> x.lay(0, 0), act);
        staleBehind("lay() of one that isn't read", x -> x.put(0, 0, Benches.NOT_READ) + x.lay(0, 1), act);
    }

    private static void sameBehind(String what, ToLongFunction<WatchBench> change, ToLongFunction<WatchBench> act) {
        WatchBench x = ready();
        long before = act.applyAsLong(x);
        change.applyAsLong(x);
        Due.is("behind " + what, act.applyAsLong(x), before);
    }

    /** Refused changes, and all that changes neither causes nor readings. */
    static void notStaleOtherwise(ToLongFunction<WatchBench> act) {
        sameBehind("a refused cause()", x -> x.cause(6, 0, 0), act);
        sameBehind("a refused read()", x -> x.read(0, 301), act);
        sameBehind("a refused drop()", x -> x.drop(5), act);
        sameBehind("a refused lay()", x -> x.lay(0, 3), act);
        sameBehind("a find() that answers BEYOND", x -> x.find(0), act);
        sameBehind("a few() that answers BEYOND", x -> x.few(0), act);
        sameBehind("mend()", x -> x.mend(0, 1), act);
        sameBehind("span()", x -> x.span(1, 0, 0), act);
        sameBehind("day()", x -> x.day(0, 1), act);
        sameBehind("anew()", x -> x.anew(), act);
        sameBehind("tell()", x -> x.tell(1), act);
        sameBehind("check()", x -> x.check(), act);
        sameBehind("sheet()", x -> x.sheet(1, 1), act);
        sameBehind("put()", x -> x.put(0, 1, 1), act);
        sameBehind("keep()", x -> x.keep(), act);
        sameBehind("doubt()", x -> x.doubt(0, true, false), act);
        sameBehind("spare()", x -> x.spare(), act);
        sameBehind("best()", x -> x.best(), act);
        sameBehind("behind()", x -> x.behind(0, 0, 3, 1, 3, false), act);
    }
}
