/** Promises 21 to 26, a test for each sentence. */
public final class MendsPapersTest {
    public static void main(String[] args) throws IllegalAccessException {
        Sentences.run(MendsPapersTest.class);
    }

    /** Sizes 95 of cause 0 (plain) and 35/2 of cause 1 (poise); cause 2 is not in the model. */
    private static WatchBench bench() {
        WatchBench x = new WatchBench();
        x.cause(0, 0, 0);
        x.cause(1, 0, 2);
        x.cause(2, 1, 1);
        x.read(0, 95);
        x.read(12, 130);
        x.read(24, 60);
        x.find(3);
        return x;
    }

    private static WatchBench mendedBench() {
        WatchBench x = bench();
        x.mend(0, -10);
        x.mend(1, 7);
        x.mend(2, 100);
        return x;
    }

    /* ---- promise 21: mend ---- */

    @Sentence(promise = 21, says = "A new mend of cause c by so much a step: its number.")
    static void mendsAreNumberedFromNought() {
        WatchBench x = bench();
        for (int m = 0; m < 8; m++) {
            Due.is("number", x.mend(m % 2, m), m);
            Due.is("mends", x.count(2), m + 1);
        }
        Due.is("the last of them by a step", x.behind(12, 7, 1, 0, 0, false), 130 + 2 * 7);
        Due.is("one of another cause by a step", x.behind(12, 6, 1, 0, 0, false), 130 + 6);
    }

    @Sentence(promise = 21, says = "BEYOND: there is no such cause,")
    static void mendOfNoCause() {
        Due.takesJust("cause", 0, 2, c -> bench().mend(c, 1));
        Due.is("without causes", new WatchBench().mend(0, 1), Due.BEYOND);
    }

    @Sentence(promise = 21, says = "or by isn't -200 .. 200.")
    static void mendByTooMuch() {
        Due.takesJust("by", -200, 200, by -> bench().mend(0, by));
        WatchBench x = bench();
        x.mend(0, 201);
        Due.is("one refused is no mend", x.count(2), 0);
    }

    @Sentence(promise = 21, says = "FULL: there are 8.")
    static void ninthMend() {
        WatchBench x = bench();
        for (int m = 0; m < 7; m++) {
            x.mend(0, m);
        }
        Due.is("the eighth is taken", x.mend(0, -200), 7);
        Due.is("the ninth", x.mend(0, 1), Due.FULL);
        Due.is("there are 8 still", x.count(2), 8);
        Due.is("and no more", x.behind(0, 8, 0, 0, 0, false), Due.BEYOND);
        Due.is("the eighth stays", x.behind(0, 7, 1, 0, 0, false), 95 - 200);
    }

    /* ---- promise 22: span ---- */

    @Sentence(promise = 22, says = "A state's span: 1;")
    static void spanOfAState() {
        WatchBench x = new WatchBench();
        Due.is("the widest", x.span(35, -1000, 1000), 1);
        Due.is("one rate alone", x.span(0, 7, 7), 1);
        Due.is("spans", x.count(3), 2);
        Due.is("another span of the same state", x.span(0, 8, 9), 1);
        Due.is("is in the former's place", x.count(3), 2);
        WatchBench y = Benches.plain(8);
        y.span(0, 9, 10);
        y.span(0, 8, 8);
        Due.is("and it is the one that counts", y.paper(), 1);
        for (int state = 0; state < 36; state++) {
            y.span(state, 0, 0);
        }
        Due.is("all states", y.count(3), 36);
    }

    @Sentence(promise = 22, says = "from above to: it has none then: 0.")
    static void spanOfNone() {
        WatchBench x = Benches.plain(8);
        x.span(35, 0, 0);
        x.span(0, 0, 0);
        Due.is("from just above to", x.span(35, 1, 0), 0);
        Due.is("spans", x.count(3), 1);
        Due.is("the widest", x.span(0, 1000, -1000), 0);
        Due.is("none", x.count(3), 0);
        Due.is("no paper", x.paper(), Due.OPEN);
        Due.is("of a state without one", x.span(1, 1, 0), 0);
        Due.is("none still", x.count(3), 0);
        Due.is("from just at to is one", x.span(1, 0, 0), 1);
    }

    @Sentence(promise = 22, says = "BEYOND: there is no such state,")
    static void spanOfNoState() {
        Due.takesJust("state", 0, 35, state -> new WatchBench().span(state, 0, 0));
        Due.is("nor has it none", new WatchBench().span(36, 1, 0), Due.BEYOND);
    }

    @Sentence(promise = 22, says = "or from or to isn't -1000 .. 1000.")
    static void spanTooFar() {
        Due.takesJust("from", -1000, 1000, from -> new WatchBench().span(0, from, 0));
        Due.takesJust("to", -1000, 1000, to -> new WatchBench().span(0, 0, to));
        WatchBench x = new WatchBench();
        x.span(0, 0, 0);
        Due.is("from above to, but too far", x.span(0, 1001, 0), Due.BEYOND);
        Due.is("the span stays", x.count(3), 1);
    }

    /* ---- promise 23: behind ---- */

    @Sentence(promise = 23, says = "What is foretold in a state behind so many steps of a mend, and of another one")
    static void behindTwoMends() {
        WatchBench x = mendedBench();
        Due.is("no steps", x.behind(12, 0, 0, 1, 0, false), x.behind(12, 0, 0, 1, 0, true), 130, 1);
        Due.is("steps of the first", x.behind(12, 0, 3, 1, 0, false), 100);
        Due.is("steps of the other", x.behind(12, 0, 0, 1, 3, false), 172);
        Due.is("of both, and back", x.behind(12, 0, 3, 1, -3, false), 58);
        Due.is("told the other way round", x.behind(12, 1, -3, 0, 3, false), 58);
        Due.is("at the position opposite", x.behind(24, 0, 3, 1, -3, false), 72);
        Due.is("where the other shows nothing", x.behind(0, 0, -3, 1, 3, false), 125);
        Due.is("what is found stays", x.foretold(12, false), 130);
        x.read(6, 96);
        x.find(3);
        Due.is("a fraction", x.behind(0, 0, 1, 1, 0, false), x.behind(0, 0, 1, 1, 0, true), 341, 4);
        WatchBench most = Benches.mended(-300, 200, 200);
        Due.is("the most steps of the greatest", most.behind(35, 0, 3, 1, 3, false), 900);
        Due.is("and the other way", most.behind(35, 0, -3, 1, -3, false), -1500);
    }

    @Sentence(promise = 23, says = "(or the same once more;")
    static void behindTheSameOnceMore() {
        WatchBench x = mendedBench();
        Due.is("three and two", x.behind(12, 1, 3, 1, 2, false), 200);
        Due.is("there and back", x.behind(12, 1, -3, 1, 3, false), 130);
        Due.is("six in all", x.behind(0, 0, 3, 0, 3, false), 35);
    }

    @Sentence(promise = 23, says = "mends of causes that aren't in the model do nothing).")
    static void behindAMendOutsideTheModel() {
        WatchBench x = mendedBench();
        Due.is("as the first", x.behind(12, 2, 3, 0, 1, false), x.behind(12, 2, 3, 0, 1, true), 120, 1);
        Due.is("as the other", x.behind(12, 0, 1, 2, -3, false), 120);
        Due.is("as both", x.behind(12, 2, 3, 2, 3, false), 130);
        x.find(2);
        Due.is("of a model found since", x.behind(12, 0, 3, 2, 3, false), x.foretold(12, false));
    }

    @Sentence(promise = 23, says = "NONE.")
    static void behindWithNothingFound() {
        FoundActs.noneWithout(x -> x.behind(0, 0, 1, 1, 1, false));
    }

    @Sentence(promise = 23, says = "STALE.")
    static void behindStale() {
        FoundActs.staleBehindChanges(x -> x.behind(12, 0, 1, 1, 1, false));
        FoundActs.notStaleOtherwise(x -> x.behind(12, 0, 1, 1, 1, false));
    }

    @Sentence(promise = 23, says = "BEYOND: there is no such state,")
    static void behindInNoState() {
        WatchBench x = mendedBench();
        Due.takesJust("state", 0, 35, state -> x.behind(state, 0, 0, 1, 0, false));
    }

    @Sentence(promise = 23, says = "mend (either),")
    static void behindNoMend() {
        WatchBench x = mendedBench();
        Due.takesJust("mend", 0, 2, mend -> x.behind(0, mend, 0, 1, 0, false));
        Due.takesJust("other", 0, 2, other -> x.behind(0, 1, 0, other, 0, false));
        Due.is("without mends", bench().behind(0, 0, 0, 0, 0, false), Due.BEYOND);
    }

    @Sentence(promise = 23, says = "or steps aren't -3 .. 3.")
    static void behindTooManySteps() {
        WatchBench x = mendedBench();
        Due.takesJust("steps", -3, 3, steps -> x.behind(0, 0, steps, 1, 0, false));
        Due.takesJust("more", -3, 3, more -> x.behind(0, 0, 0, 1, more, false));
        Due.takesJust("steps of one that does nothing", -3, 3, steps -> x.behind(0, 2, steps, 1, 0, false));
    }

    /* ---- promise 24: worst ---- */

    @Sentence(promise = 24, says = "WORST of the sizes found.")
    static void worstOfSpans() {
        WatchBench x = bench();
        x.span(0, 500, 600);
        Due.is("one state", x.worst(false), x.worst(true), 95, 1);
        x.span(12, 0, 0);
        x.span(24, 0, 0);
        Due.is("three states", x.worst(false), 130);
        x.span(12, 1, 0);
        Due.is("without a span it is not looked at", x.worst(false), 95);
        x.mend(0, 200);
        Due.is("mends are not looked at", x.worst(false), 95);
        x.span(35, 0, 0);
        Due.is("nor is the last state greater", x.worst(false), 95);
        WatchBench none = Benches.mended(0);
        Due.is("nothing foretold", none.worst(false), none.worst(true), 0, 1);
        WatchBench below = Benches.plain(-7, -8);
        below.span(35, 0, 0);
        Due.is("without sign, in the last state alone", below.worst(false), below.worst(true), 15, 2);
    }

    @Sentence(promise = 24, says = "NONE.")
    static void worstWithNothingFound() {
        FoundActs.noneWithout(x -> x.worst(false));
    }

    @Sentence(promise = 24, says = "STALE.")
    static void worstStale() {
        FoundActs.staleBehindChanges(x -> x.worst(false));
        FoundActs.notStaleOtherwise(x -> x.worst(false));
    }

    @Sentence(promise = 24, says = "OPEN: no state has a span.")
    static void worstWithoutSpans() {
        WatchBench x = bench();
        Due.is("none", x.worst(false), Due.OPEN);
        x.span(35, 0, 0);
        Due.is("the last state alone", x.worst(true), 1);
        x.span(35, 1, 0);
        Due.is("none any more", x.worst(true), Due.OPEN);
    }

    /* ---- promise 25: best ---- */

    private static long code(int m, int s, int n, int t) {
        return 10000 * (m + 1) + 1000 * (s + 3) + 10 * (n + 1) + (t + 3);
    }

    @Sentence(promise = 25, says = "Of no mend, or one, or two unlike ones, with steps that aren't 0, what makes WORST least;")
    static void bestMakesWorstLeast() {
        Due.is("no mends", Benches.mended(60).best(), code(-1, 0, -1, 0));
        Due.is("one, with the lowest steps", Benches.mended(60, 10).best(), code(0, -3, -1, 0));
        Due.is("one, with the highest steps", Benches.mended(-60, 10).best(), code(0, 3, -1, 0));
        Due.is("one, the other way", Benches.mended(60, -20).best(), code(0, 3, -1, 0));
        Due.is("not the same twice", Benches.mended(60, 11).best(), code(0, -3, -1, 0));
        Due.is("two", Benches.mended(60, 10, 10).best(), code(0, -3, 1, -3));
        Due.is("not three", Benches.mended(90, 10, 10, 10).best(), code(0, -3, 1, -3));
        Due.is("two against one another", Benches.mended(70, 50, 10).best(), code(0, -2, 1, 3));
        Due.is("the last two of eight", Benches.mended(30, 0, 0, 0, 0, 0, 0, 4, 6).best(), code(6, -3, 7, -3));
    }

    @Sentence(promise = 25, says = "Of no mend, or one, or two unlike ones, with steps that aren't 0,")
    static void bestOfAllSteps() {
        for (int s = -3; s <= 3; s++) {
            for (int t = -3; t <= 3; t++) {
                // just these steps, and no others, bring the rate to nothing
                WatchBench x = Benches.mended(-90 * s - 7 * t, 90, 7);
                long none = code(-1, 0, -1, 0);
                long one = s == 0 ? code(1, t, -1, 0) : code(0, s, -1, 0);
                long due = s == 0 && t == 0 ? none : s == 0 || t == 0 ? one : code(0, s, 1, t);
                Due.is("steps " + s + " and " + t, x.best(), due);
            }
        }
    }

    @Sentence(promise = 25, says = "what makes WORST least;")
    static void bestOfAllSpans() {
        WatchBench x = bench();
        x.span(0, 0, 0);
        x.mend(0, 30);
        x.mend(0, 5);
        Due.is("one state", x.best(), code(0, -3, 1, -1));
        x.span(12, 0, 0);
        Due.is("two states", x.best(), code(0, -3, 1, -3));
        x.mend(1, -6);
        Due.is("with a mend of poise", x.best(), code(0, -3, 2, 3));
        Due.is("what is found stays", x.size(0, false), 95);
        WatchBench y = bench();
        for (int state = 0; state < 36; state++) {
            y.span(state, -1000, 1000);
        }
        for (int m = 0; m < 6; m++) {
            y.mend(2, 200);
        }
        y.mend(1, 5);
        y.mend(0, 50);
        Due.is("all states, eight mends", y.best(), code(6, -3, 7, -2));
    }

    @Sentence(promise = 25, says = "of alike ones fewer mends,")
    static void bestOfAlikeWithFewerMends() {
        Due.is("none is as good as a mend by nothing", Benches.mended(30, 0).best(), code(-1, 0, -1, 0));
        Due.is("none is as good as one step too far", Benches.mended(5, 10).best(), code(-1, 0, -1, 0));
        Due.is("one is as good as two", Benches.mended(30, 0, 10).best(), code(1, -3, -1, 0));
        Due.is("the last alone is as good as the first two", Benches.mended(40, 10, 10, 20).best(), code(2, -2, -1, 0));
        WatchBench x = bench();
        x.span(0, 0, 0);
        x.mend(2, 95);
        Due.is("none is as good as one outside the model", x.best(), code(-1, 0, -1, 0));
    }

    @Sentence(promise = 25, says = "then the lesser first mend,")
    static void bestOfAlikeTheLesserFirst() {
        Due.is("alike mends", Benches.mended(20, 10, 10).best(), code(0, -2, -1, 0));
        Due.is("though its steps are higher", Benches.mended(20, 20, 10).best(), code(0, -1, -1, 0));
        Due.is("though they are above 0", Benches.mended(30, -10, 10).best(), code(0, 3, -1, 0));
        Due.is("of two", Benches.mended(40, 10, 10, 10).best(), code(0, -3, 1, -1));
        Due.is("of two, though its steps are higher", Benches.mended(90, 100, 10, 20).best(), code(0, -1, 1, 1));
    }

    @Sentence(promise = 25, says = "then its lower steps,")
    static void bestOfAlikeTheFirstsLowerSteps() {
        Due.is("5 and -5", Benches.mended(15, 10).best(), code(0, -2, -1, 0));
        Due.is("-5 and 5", Benches.mended(-15, 10).best(), code(0, 1, -1, 0));
        Due.is("of two, though the second is greater", Benches.mended(50, 10, 40, 30).best(), code(0, -2, 2, -1));
    }

    @Sentence(promise = 25, says = "then the lesser second mend,")
    static void bestOfAlikeTheLesserSecond() {
        Due.is("alike seconds", Benches.mended(50, 10, 20, 20).best(), code(0, -3, 1, -1));
        Due.is("though its steps are higher", Benches.mended(50, 10, 20, 10).best(), code(0, -3, 1, -1));
    }

    @Sentence(promise = 25, says = "then its lower steps (the first mend is the lesser one):")
    static void bestOfAlikeTheSecondsLowerSteps() {
        Due.is("5 and -5", Benches.mended(285, 90, 10).best(), code(0, -3, 1, -2));
        Due.is("-5 and 5", Benches.mended(-285, 90, 10).best(), code(0, 3, 1, 1));
        Due.is("the lesser is told first, the greater by", Benches.mended(40, 10, 30).best(), code(0, -1, 1, -1));
        Due.is("the lesser is told first, the less by", Benches.mended(130, 30, 20).best(), code(0, -3, 1, -2));
    }

    @Sentence(promise = 25, says = "10000 (m + 1) + 1000 (s + 3) + 10 (n + 1) + (t + 3), m and n being the first and second"
        + " mend (-1 without), s and t their steps (0 without).")
    static void bestAsANumber() {
        Due.is("none", Benches.mended(0, 10).best(), 3003);
        Due.is("the first by -3", Benches.mended(30, 10).best(), 10003);
        Due.is("the first by 3", Benches.mended(-30, 10).best(), 16003);
        Due.is("the first by -3, the second by -3", Benches.mended(33, 10, 1).best(), 10020);
        Due.is("the first by 3, the second by 3", Benches.mended(-33, 10, 1).best(), 16026);
        Due.is("the last alone", Benches.mended(30, 0, 0, 0, 0, 0, 0, 0, 10).best(), 80003);
        Due.is("the last two", Benches.mended(33, 0, 0, 0, 0, 0, 0, 10, 1).best(), 70080);
    }

    @Sentence(promise = 25, says = "NONE.")
    static void bestWithNothingFound() {
        FoundActs.noneWithout(x -> x.best());
    }

    @Sentence(promise = 25, says = "STALE.")
    static void bestStale() {
        FoundActs.staleBehindChanges(x -> x.best());
        FoundActs.notStaleOtherwise(x -> x.best());
    }

    @Sentence(promise = 25, says = "OPEN: no state has a span.")
    static void bestWithoutSpans() {
        WatchBench x = bench();
        x.mend(0, 10);
        Due.is("none", x.best(), Due.OPEN);
        x.span(35, 0, 0);
        Due.is("the last state alone", x.best(), code(0, -3, -1, 0));
        x.span(35, 1, 0);
        Due.is("none any more", x.best(), Due.OPEN);
    }

    /* ---- promise 26: paper ---- */

    @Sentence(promise = 26, says = "Whether what is foretold is in all spans (1);")
    static void paperOfAllSpans() {
        WatchBench x = bench();
        x.span(12, 130, 1000);
        Due.is("just from", x.paper(), 1);
        x.span(24, -1000, 60);
        Due.is("just to", x.paper(), 1);
        x.span(0, 95, 95);
        Due.is("just the one rate", x.paper(), 1);
        for (int state = 0; state < 36; state++) {
            x.span(state, -1000, 1000);
        }
        Due.is("all states", x.paper(), 1);
        WatchBench y = Benches.plain(-7, -8);
        y.span(35, -8, -7);
        Due.is("a fraction within", y.paper(), 1);
    }

    @Sentence(promise = 26, says = "else the first state, less 1000, in which it isn't.")
    static void paperRefused() {
        WatchBench x = bench();
        x.span(35, 96, 96);
        Due.is("the last state", x.paper(), -965);
        x.span(24, 61, 61);
        Due.is("just below from", x.paper(), -976);
        x.span(12, 129, 129);
        Due.is("just above to", x.paper(), -988);
        x.span(0, 95, 95);
        Due.is("one that is in its span is passed over", x.paper(), -988);
        x.span(0, 1, 94);
        Due.is("the first state", x.paper(), -1000);
        WatchBench y = Benches.plain(-7, -8);
        y.span(35, -7, 0);
        Due.is("a fraction below", y.paper(), -965);
        y.span(35, -9, -8);
        Due.is("a fraction above", y.paper(), -965);
    }

    @Sentence(promise = 26, says = "NONE.")
    static void paperWithNothingFound() {
        FoundActs.noneWithout(x -> x.paper());
    }

    @Sentence(promise = 26, says = "STALE.")
    static void paperStale() {
        FoundActs.staleBehindChanges(x -> x.paper());
        FoundActs.notStaleOtherwise(x -> x.paper());
    }

    @Sentence(promise = 26, says = "OPEN.")
    static void paperWithoutSpans() {
        WatchBench x = bench();
        Due.is("none", x.paper(), Due.OPEN);
        x.span(35, 95, 95);
        Due.is("the last state alone", x.paper(), 1);
        x.span(35, 1, 0);
        Due.is("none any more", x.paper(), Due.OPEN);
    }
}
