import java.util.function.Supplier;
import java.util.function.ToLongFunction;

/** Two benches made alike, one of which is given a call that is refused: all that they answer then is alike. */
final class Twins {
    private final WatchBench refused;
    private final WatchBench other;
    private final String what;
    private int calls;

    private Twins(String what, Supplier<WatchBench> make) {
        this.what = what;
        refused = make.get();
        other = make.get();
    }

    static void sameBehind(String what, Supplier<WatchBench> make, ToLongFunction<WatchBench> call, long finding) {
        Twins twins = new Twins(what, make);
        Due.is(what, call.applyAsLong(twins.refused), finding);
        twins.countsOneMore((int) (Due.LOW - finding));
        twins.sameStock();
        twins.sameFound();
        twins.sameTrial();
        twins.same("check()", x -> x.check());
        twins.sameSheets();
        twins.sameKept();
        // the benches take some 140 calls to be made, and answers behind the 512th call are free
        Due.holds(what + ": " + twins.calls + " calls are few enough", twins.calls < 512 - 150);
    }

    private void same(String asked, ToLongFunction<WatchBench> ask) {
        calls++;
        Due.is(what + ": then " + asked, ask.applyAsLong(refused), ask.applyAsLong(other));
    }

    private void countsOneMore(int finding) {
        for (int k = 1; k <= 7; k++) {
            calls++;
            Due.is(what + ": then found(" + k + ")", refused.found(k), other.found(k) + (k == finding ? 1 : 0));
        }
    }

    private void sameCounts() {
        for (int i = 0; i < 6; i++) {
            int one = i;
            same("count(" + one + ")", x -> x.count(one));
        }
    }

    private void sameReadings() {
        for (int i = 0; i < 20; i++) {
            int one = i;
            same("reading(" + one + ", 0)", x -> x.reading(one, 0));
            same("reading(" + one + ", 1)", x -> x.reading(one, 1));
        }
    }

    private void sameStock() {
        sameCounts();
        sameReadings();
        int[] states = {0, 4, 13, 20, 29};
        for (int c = 0; c < 8; c++) {
            for (int state : states) {
                int one = c;
                same("shows(" + one + ", " + state + ")", x -> x.shows(one, state));
            }
        }
    }

    private void sameFound() {
        same("loose()", x -> x.loose());
        same("model()", x -> x.model());
        same("sum(false)", x -> x.sum(false));
        same("sum(true)", x -> x.sum(true));
        same("spare()", x -> x.spare());
        for (int i = 0; i < 8; i++) {
            int one = i;
            same("size(" + one + ")", x -> x.size(one, false));
            same("left(" + one + ")", x -> x.left(one, false));
            same("doubt(" + one + ")", x -> x.doubt(one, true, false));
            same("behind mend " + one, x -> x.behind(12, one, 1, one, 0, false));
        }
        for (int state = 0; state < 36; state += 4) {
            int one = state;
            same("foretold(" + one + ")", x -> x.foretold(one, false));
        }
        same("worst()", x -> x.worst(false));
        same("best()", x -> x.best());
        same("paper()", x -> x.paper());
    }

    private void sameTrial() {
        for (int position = -1; position < 6; position++) {
            int one = position;
            same("mean(" + one + ")", x -> x.mean(one, false));
            same("change(" + one + ")", x -> x.change(one));
        }
    }

    /** Readings are dropped first, so that there is room to lay the sheets. */
    private void sameSheets() {
        for (int i = 0; i < 20; i++) {
            same("drop(0)", x -> x.drop(0));
        }
        for (int s = 0; s < 3; s++) {
            int one = s;
            for (int n = 4; n >= 1; n--) {
                int places = n;
                same("lay(" + one + ", " + places + ")", x -> x.lay(one, places));
            }
        }
        sameReadings();
    }

    /** Spans are the only part of what is kept that counts alone would not tell apart. */
    private void sameKept() {
        same("back()", x -> x.back());
        sameCounts();
        same("reading(0, 1)", x -> x.reading(0, 1));
        same("find(1)", x -> x.find(1));
        same("best()", x -> x.best());
        same("paper()", x -> x.paper());
    }
}
