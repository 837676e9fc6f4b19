/** Promises 27 to 30, a test for each sentence. */
public final class TrialsTest {
    public static void main(String[] args) throws IllegalAccessException {
        Sentences.run(TrialsTest.class);
    }

    /** A trial of days, each a state and a gain. */
    private static WatchBench trial(int[]... days) {
        WatchBench x = new WatchBench();
        for (int[] day : days) {
            x.day(day[0], day[1]);
        }
        return x;
    }

    private static int[] day(int state, int gain) {
        return new int[] {state, gain};
    }

    /* ---- promise 27: day ---- */

    @Sentence(promise = 27, says = "A day of a trial in a state, with a gain (-1000 .. 1000): how many days there are.")
    static void daysAreCounted() {
        WatchBench x = new WatchBench();
        Due.is("the least gain", x.day(0, -1000), 1);
        Due.is("the greatest gain", x.day(35, 1000), 2);
        Due.is("another in the same state", x.day(35, 1000), 3);
        Due.is("the least is summed", x.mean(0, false), -1000);
        Due.is("the greatest is summed", x.mean(5, false), 1000);
        Due.is("count", x.count(4), 3);
    }

    @Sentence(promise = 27, says = "BEYOND: there is no such state,")
    static void dayInNoState() {
        Due.takesJust("state", 0, 35, state -> new WatchBench().day(state, 0));
    }

    @Sentence(promise = 27, says = "or gain isn't so.")
    static void dayWithNoSuchGain() {
        Due.takesJust("gain", -1000, 1000, gain -> new WatchBench().day(0, gain));
        WatchBench x = new WatchBench();
        x.day(0, 1001);
        Due.is("one refused is no day", x.count(4), 0);
    }

    @Sentence(promise = 27, says = "FULL: 60 days are.")
    static void daySixtyOne() {
        WatchBench x = new WatchBench();
        for (int i = 1; i <= 59; i++) {
            x.day(35, i % 2 == 0 ? 1000 : -1000);
        }
        Due.is("day 60 is taken", x.day(35, 1000), 60);
        Due.is("day 61", x.day(0, 0), Due.FULL);
        Due.is("days", x.count(4), 60);
        Due.is("day 61 is not summed", x.mean(0, false), Due.OPEN);
        Due.is("mean of all sixty", x.mean(-1, false), x.mean(-1, true), 0, 1);
        Due.is("greatest change of all sixty", x.change(5), 2000);
        x.anew();
        Due.is("anew there is room", x.day(0, 0), 1);
    }

    /* ---- promise 28: anew ---- */

    @Sentence(promise = 28, says = "The trial begins anew: how many days there were.")
    static void anewTellsHowManyDays() {
        WatchBench x = trial(day(0, 1), day(0, 5));
        Due.is("two", x.anew(), 2);
        Due.is("none then", x.count(4), 0);
        Due.is("no mean then", x.mean(-1, false), Due.OPEN);
        Due.is("no change then", x.change(-1), Due.OPEN);
        Due.is("none once more", x.anew(), 0);
        Due.is("the first day", x.day(6, 5), 1);
        Due.is("its mean", x.mean(-1, false), x.mean(-1, true), 5, 1);
        Due.is("it does not change from a day ahead", x.change(-1), Due.OPEN);
        Due.is("of a new object", new WatchBench().anew(), 0);
        WatchBench full = Benches.full();
        Due.is("of the longest", full.anew(), 60);
    }

    /* ---- promise 29: mean ---- */

    @Sentence(promise = 29, says = "The mean of the days' gains at a position (-1: at all): what is above (below).")
    static void meanAtAPositionOrAll() {
        WatchBench x = trial(day(5, 10), day(6, -3), day(0, 5), day(11, -4), day(3, 6), day(30, -9));
        Due.is("dial up: states 0 to 5", x.mean(0, false), x.mean(0, true), 7, 1);
        Due.is("dial down: states 6 to 11", x.mean(1, false), x.mean(1, true), -7, 2);
        Due.is("the last position", x.mean(5, false), x.mean(5, true), -9, 1);
        Due.is("all", x.mean(-1, false), x.mean(-1, true), 5, 6);
        x.day(12, 0);
        Due.is("nothing gained", x.mean(2, false), x.mean(2, true), 0, 1);
    }

    @Sentence(promise = 29, says = "BEYOND: position isn't -1 .. 5.")
    static void meanAtNoPosition() {
        WatchBench x = trial(day(0, 1), day(35, 1));
        Due.takesJust("position", -1, 5, position -> x.mean(position, false));
        Due.takesJust("position, below", -1, 5, position -> x.mean(position, true));
    }

    @Sentence(promise = 29, says = "OPEN: there is no such day.")
    static void meanOfNoDay() {
        Due.is("no day at all", new WatchBench().mean(-1, false), Due.OPEN);
        WatchBench x = trial(day(17, 1));
        Due.is("one day", x.mean(-1, true), 1);
        Due.is("one day at it", x.mean(2, true), 1);
        int[] others = {0, 1, 3, 4, 5};
        for (int position : others) {
            Due.is("no day at " + position, x.mean(position, true), Due.OPEN);
        }
    }

    /* ---- promise 30: change ---- */

    @Sentence(promise = 30, says = "The greatest change of gain from a day to the next one, without sign")
    static void changeFromDayToDay() {
        Due.is("up", trial(day(0, 10), day(0, 90)).change(-1), 80);
        Due.is("down", trial(day(0, 100), day(0, -100), day(0, -50)).change(-1), 200);
        Due.is("the first of them", trial(day(0, 0), day(0, 9), day(0, 8), day(0, 7)).change(-1), 9);
        Due.is("the last of them", trial(day(0, 7), day(0, 8), day(0, 9), day(0, 0)).change(-1), 9);
        Due.is("not over two days", trial(day(0, 0), day(0, 5), day(0, 10)).change(-1), 5);
        Due.is("nothing changes", trial(day(0, 7), day(6, 7)).change(-1), 0);
        Due.is("from the least to the greatest", trial(day(0, -1000), day(0, 1000)).change(0), 2000);
        Due.is("over all positions", trial(day(0, 1), day(35, 4)).change(-1), 3);
    }

    @Sentence(promise = 30, says = "(at a position: of days at it, in turn, others left out).")
    static void changeAtAPosition() {
        WatchBench x = trial(day(0, 10), day(12, 90), day(3, 10), day(4, -5), day(17, 91));
        Due.is("dial up", x.change(0), 15);
        Due.is("hanging", x.change(2), 1);
        Due.is("all", x.change(-1), 96);
    }

    @Sentence(promise = 30, says = "BEYOND.")
    static void changeAtNoPosition() {
        WatchBench x = trial(day(0, 1), day(35, 1), day(35, 2));
        Due.takesJust("position", -1, 5, position -> x.change(position));
    }

    @Sentence(promise = 30, says = "OPEN: there are not two such days.")
    static void changeWithoutTwoDays() {
        WatchBench x = new WatchBench();
        Due.is("no day", x.change(-1), Due.OPEN);
        Due.is("no day at it", x.change(0), Due.OPEN);
        x.day(0, 10);
        Due.is("one day", x.change(-1), Due.OPEN);
        Due.is("one day at it", x.change(0), Due.OPEN);
        x.day(12, 90);
        Due.is("two days", x.change(-1), 80);
        Due.is("one day at it of two", x.change(0), Due.OPEN);
        Due.is("no day at it of two", x.change(5), Due.OPEN);
        x.day(5, 10);
        Due.is("two days at it", x.change(0), 0);
    }
}
