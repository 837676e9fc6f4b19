import java.util.function.Supplier;
import java.util.function.ToLongFunction;

/** The two sentences of the terms on acts that answer a finding: their order, and that they change nothing. */
public final class RefusalsTest {
    private static final int LEAST = Integer.MIN_VALUE;
    private static final int GREATEST = Integer.MAX_VALUE;

    public static void main(String[] args) throws IllegalAccessException {
        Sentences.run(RefusalsTest.class);
    }

    /* ---- benches in each state that an act may be refused in ---- */

    /** Some of everything: found, an OPEN find ahead of it, sheets (1 missing), days, numbers that wait, and kept. */
    private static WatchBench rich() {
        WatchBench x = FoundActs.ready();
        x.cause(2, 0, 0);
        x.keep();
        x.find(8);
        x.find(3);
        x.sheet(2, 3);
        x.put(2, 0, 301);
        x.put(2, 2, -4);
        x.day(0, 10);
        x.day(13, 20);
        x.day(1, -30);
        x.tell(204);
        x.tell(5);
        return x;
    }

    private static WatchBench stale() {
        WatchBench x = rich();
        x.read(6, 11);
        return x;
    }

    private static WatchBench nothingFound() {
        WatchBench x = rich();
        x.back();
        return x;
    }

    /** Stale, then nothing found: NONE is asked ahead of STALE. */
    private static WatchBench staleAndGone() {
        WatchBench x = stale();
        x.back();
        x.read(0, 1);
        return x;
    }

    private static WatchBench withoutSpans() {
        WatchBench x = rich();
        x.span(0, 1, 0);
        x.span(12, 1, 0);
        return x;
    }

    private static WatchBench full() {
        WatchBench x = Benches.full();
        x.keep();
        x.find(3);
        x.span(0, 0, 0);
        x.sheet(0, 3);
        x.put(0, 0, 5);
        x.sheet(2, 3);
        x.put(2, 2, 301);
        return x;
    }

    private static WatchBench noneFirm() {
        WatchBench x = new WatchBench();
        x.cause(1, 0, 1);
        x.cause(2, 0, 0);
        x.few(1);
        return x;
    }

    private static void same(String what, Supplier<WatchBench> make, ToLongFunction<WatchBench> call, long finding) {
        Twins.sameBehind(what, make, call, finding);
    }

    private static void sameWithoutFound(String what, ToLongFunction<WatchBench> call) {
        same(what + " with nothing found", RefusalsTest::nothingFound, call, Due.NONE);
        same(what + " stale", RefusalsTest::stale, call, Due.STALE);
    }

    /* ---- what changes nothing ---- */

    @Sentence(promise = 0, says = "one that answers a finding changes nothing but what found() tells.")
    static void refusedCausesChangeNothing() {
        same("cause of kind 6", RefusalsTest::rich, x -> x.cause(6, 0, 0), Due.BEYOND);
        same("cause of kind -1", RefusalsTest::rich, x -> x.cause(-1, 0, 0), Due.BEYOND);
        same("poise 4", RefusalsTest::rich, x -> x.cause(1, 4, 1), Due.BEYOND);
        same("hair by 3", RefusalsTest::rich, x -> x.cause(2, 0, 3), Due.BEYOND);
        same("ninth cause", RefusalsTest::full, x -> x.cause(5, 3, 3), Due.FULL);
        same("shows of no cause", RefusalsTest::rich, x -> x.shows(4, 0), Due.BEYOND);
        same("shows in no state", RefusalsTest::rich, x -> x.shows(0, 36), Due.BEYOND);
        same("as of no cause", RefusalsTest::rich, x -> x.as(4, 0), Due.BEYOND);
        same("as of no kind", RefusalsTest::rich, x -> x.as(0, 6), Due.BEYOND);
        same("as of another kind", RefusalsTest::rich, x -> x.as(0, 5), Due.KIND);
    }

    @Sentence(promise = 0, says = "one that answers a finding changes nothing but what found() tells.")
    static void refusedReadingsChangeNothing() {
        same("read in no state", RefusalsTest::rich, x -> x.read(-1, 0), Due.BEYOND);
        same("read of 301", RefusalsTest::rich, x -> x.read(0, 301), Due.BEYOND);
        same("twenty-first reading", RefusalsTest::full, x -> x.read(0, 300), Due.FULL);
        same("drop of none", RefusalsTest::rich, x -> x.drop(5), Due.BEYOND);
        same("drop of -1", RefusalsTest::rich, x -> x.drop(-1), Due.BEYOND);
        same("reading of none", RefusalsTest::rich, x -> x.reading(5, 0), Due.BEYOND);
        same("reading of another what", RefusalsTest::rich, x -> x.reading(0, 2), Due.BEYOND);
    }

    @Sentence(promise = 0, says = "one that answers a finding changes nothing but what found() tells.")
    static void refusedSheetsChangeNothing() {
        same("sheet 3", RefusalsTest::rich, x -> x.sheet(3, 2), Due.BEYOND);
        same("sheet of -2", RefusalsTest::rich, x -> x.sheet(2, -2), Due.SIZE);
        same("sheet of 37", RefusalsTest::rich, x -> x.sheet(2, 37), Due.BEYOND);
        same("put on sheet 3", RefusalsTest::rich, x -> x.put(3, 0, 9), Due.BEYOND);
        same("put on a missing sheet", RefusalsTest::rich, x -> x.put(1, 0, 9), Due.NONE);
        same("put at no place", RefusalsTest::rich, x -> x.put(2, 3, 9), Due.BEYOND);
        same("put at -1", RefusalsTest::rich, x -> x.put(2, -1, 9), Due.BEYOND);
        same("lay sheet 3", RefusalsTest::rich, x -> x.lay(3, 1), Due.BEYOND);
        same("lay a missing sheet", RefusalsTest::rich, x -> x.lay(1, 0), Due.NONE);
        same("lay -1", RefusalsTest::rich, x -> x.lay(0, -1), Due.SIZE);
        same("lay more than there are", RefusalsTest::rich, x -> x.lay(0, 3), Due.BEYOND);
        same("lay one of 301", RefusalsTest::rich, x -> x.lay(2, 1), Due.BEYOND);
        same("lay one too many", RefusalsTest::full, x -> x.lay(0, 1), Due.FULL);
    }

    @Sentence(promise = 0, says = "one that answers a finding changes nothing but what found() tells.")
    static void refusedFindsChangeNothing() {
        same("find of nothing", RefusalsTest::rich, x -> x.find(0), Due.BEYOND);
        same("find of what isn't there", RefusalsTest::rich, x -> x.find(17), Due.BEYOND);
        same("find of five", RefusalsTest::full, x -> x.find(31), Due.BEYOND);
        // loose() tells the same set of both, as the one ahead was of the same model
        same("find of what isn't firm", RefusalsTest::rich, x -> x.find(8), Due.OPEN);
        same("find of what isn't firm, stale", RefusalsTest::stale, x -> x.find(8), Due.OPEN);
        same("few of none", RefusalsTest::rich, x -> x.few(0), Due.BEYOND);
        same("few of four", RefusalsTest::rich, x -> x.few(4), Due.BEYOND);
        same("few without causes", WatchBench::new, x -> x.few(1), Due.NONE);
        same("few with none firm", RefusalsTest::noneFirm, x -> x.few(3), Due.OPEN);
    }

    @Sentence(promise = 0, says = "one that answers a finding changes nothing but what found() tells.")
    static void refusedTellingsOfWhatIsFoundChangeNothing() {
        sameWithoutFound("size", x -> x.size(0, false));
        sameWithoutFound("left", x -> x.left(0, false));
        sameWithoutFound("sum", x -> x.sum(false));
        sameWithoutFound("foretold", x -> x.foretold(0, false));
        sameWithoutFound("model", x -> x.model());
        sameWithoutFound("doubt", x -> x.doubt(0, true, false));
        sameWithoutFound("spare", x -> x.spare());
        sameWithoutFound("behind", x -> x.behind(0, 0, 1, 1, 1, false));
        sameWithoutFound("worst", x -> x.worst(false));
        sameWithoutFound("best", x -> x.best());
        sameWithoutFound("paper", x -> x.paper());
        same("size outside the model", RefusalsTest::rich, x -> x.size(2, false), Due.BEYOND);
        same("left of no reading", RefusalsTest::rich, x -> x.left(5, false), Due.BEYOND);
        same("foretold in no state", RefusalsTest::rich, x -> x.foretold(36, false), Due.BEYOND);
        same("doubt outside the model", RefusalsTest::rich, x -> x.doubt(2, true, false), Due.BEYOND);
        same("doubt with none to spare", () -> Benches.plain(7), x -> x.doubt(0, true, false), Due.OPEN);
    }

    @Sentence(promise = 0, says = "one that answers a finding changes nothing but what found() tells.")
    static void refusedMendsAndPapersChangeNothing() {
        same("mend of no cause", RefusalsTest::rich, x -> x.mend(4, 1), Due.BEYOND);
        same("mend by 201", RefusalsTest::rich, x -> x.mend(0, 201), Due.BEYOND);
        same("ninth mend", RefusalsTest::full, x -> x.mend(0, 1), Due.FULL);
        same("span of no state", RefusalsTest::rich, x -> x.span(36, 0, 0), Due.BEYOND);
        same("span from too far", RefusalsTest::rich, x -> x.span(0, -1001, 1000), Due.BEYOND);
        same("span to too far", RefusalsTest::rich, x -> x.span(0, 0, 1001), Due.BEYOND);
        same("no span, from too far", RefusalsTest::rich, x -> x.span(0, 1001, 0), Due.BEYOND);
        same("behind no mend", RefusalsTest::rich, x -> x.behind(0, 2, 0, 0, 0, false), Due.BEYOND);
        same("behind four steps", RefusalsTest::rich, x -> x.behind(0, 0, 4, 0, 0, false), Due.BEYOND);
        same("worst without spans", RefusalsTest::withoutSpans, x -> x.worst(false), Due.OPEN);
        same("best without spans", RefusalsTest::withoutSpans, x -> x.best(), Due.OPEN);
        same("paper without spans", RefusalsTest::withoutSpans, x -> x.paper(), Due.OPEN);
    }

    @Sentence(promise = 0, says = "one that answers a finding changes nothing but what found() tells.")
    static void refusedTrialsAndTellingsChangeNothing() {
        same("day in no state", RefusalsTest::rich, x -> x.day(36, 0), Due.BEYOND);
        same("day of 1001", RefusalsTest::rich, x -> x.day(0, 1001), Due.BEYOND);
        same("day 61", RefusalsTest::full, x -> x.day(0, 1000), Due.FULL);
        same("mean at no position", RefusalsTest::rich, x -> x.mean(6, false), Due.BEYOND);
        same("mean of no day", RefusalsTest::rich, x -> x.mean(5, false), Due.OPEN);
        same("change at no position", RefusalsTest::rich, x -> x.change(-2), Due.BEYOND);
        same("change of one day", RefusalsTest::rich, x -> x.change(2), Due.OPEN);
        same("seventeenth number", RefusalsTest::full, x -> x.tell(9), Due.FULL);
        same("back with nothing kept", Benches::foundWatch, x -> x.back(), Due.NONE);
        same("count of another what", RefusalsTest::rich, x -> x.count(6), Due.BEYOND);
        same("found of another k", RefusalsTest::rich, x -> x.found(8), Due.BEYOND);
    }

    /* ---- the order of findings ---- */

    private static void first(String what, Supplier<WatchBench> make, ToLongFunction<WatchBench> call, long finding) {
        Due.is(what, call.applyAsLong(make.get()), finding);
    }

    /** An act on what was found, asked for what is BEYOND, too. */
    private static void foundFirst(String what, ToLongFunction<WatchBench> wrong, long otherwise) {
        first(what + ": NONE is first", RefusalsTest::nothingFound, wrong, Due.NONE);
        first(what + ": NONE is ahead of STALE", RefusalsTest::staleAndGone, wrong, Due.NONE);
        first(what + ": STALE is ahead", RefusalsTest::stale, wrong, Due.STALE);
        first(what + ": otherwise", RefusalsTest::rich, wrong, otherwise);
    }

    @Sentence(promise = 0, says = "Each act tells its findings in the order in which they are asked;")
    static void beyondAheadOfFull() {
        first("cause", RefusalsTest::full, x -> x.cause(1, 4, 1), Due.BEYOND);
        first("cause of no kind", RefusalsTest::full, x -> x.cause(LEAST, 0, 0), Due.BEYOND);
        first("read in no state", RefusalsTest::full, x -> x.read(36, 0), Due.BEYOND);
        first("read of no rate", RefusalsTest::full, x -> x.read(0, GREATEST), Due.BEYOND);
        first("mend of no cause", RefusalsTest::full, x -> x.mend(8, 0), Due.BEYOND);
        first("mend by too much", RefusalsTest::full, x -> x.mend(0, 201), Due.BEYOND);
        first("day in no state", RefusalsTest::full, x -> x.day(-1, 0), Due.BEYOND);
        first("day of no such gain", RefusalsTest::full, x -> x.day(0, -1001), Due.BEYOND);
    }

    @Sentence(promise = 0, says = "Each act tells its findings in the order in which they are asked;")
    static void findingsOfCausesAndFindsInOrder() {
        first("as: BEYOND ahead of KIND, no such cause", RefusalsTest::rich, x -> x.as(4, 5), Due.BEYOND);
        first("as: BEYOND ahead of KIND, no such kind", RefusalsTest::rich, x -> x.as(0, 7), Due.BEYOND);
        first("find: BEYOND ahead of OPEN", RefusalsTest::noneFirm, x -> x.find(5), Due.BEYOND);
        first("few: BEYOND ahead of NONE", WatchBench::new, x -> x.few(0), Due.BEYOND);
        first("few: BEYOND ahead of OPEN", RefusalsTest::noneFirm, x -> x.few(4), Due.BEYOND);
        first("mean: BEYOND ahead of OPEN", WatchBench::new, x -> x.mean(6, false), Due.BEYOND);
        first("change: BEYOND ahead of OPEN", WatchBench::new, x -> x.change(6), Due.BEYOND);
    }

    @Sentence(promise = 0, says = "Each act tells its findings in the order in which they are asked;")
    static void findingsOfSheetsInOrder() {
        first("sheet: BEYOND ahead of SIZE", RefusalsTest::rich, x -> x.sheet(3, -5), Due.BEYOND);
        first("put: BEYOND ahead of NONE", WatchBench::new, x -> x.put(-1, 99, 0), Due.BEYOND);
        first("put: NONE ahead of BEYOND", RefusalsTest::rich, x -> x.put(1, 99, 0), Due.NONE);
        first("put: NONE ahead of BEYOND", RefusalsTest::rich, x -> x.put(1, -1, 0), Due.NONE);
        first("lay: BEYOND ahead of SIZE", RefusalsTest::rich, x -> x.lay(3, -1), Due.BEYOND);
        first("lay: NONE ahead of SIZE", RefusalsTest::rich, x -> x.lay(1, -1), Due.NONE);
        first("lay: NONE ahead of BEYOND", RefusalsTest::rich, x -> x.lay(1, 37), Due.NONE);
        first("lay: BEYOND of places ahead of FULL", RefusalsTest::full, x -> x.lay(0, 4), Due.BEYOND);
        first("lay: BEYOND of a rate ahead of FULL", RefusalsTest::full, x -> x.lay(2, 3), Due.BEYOND);
        first("lay: SIZE ahead of FULL", RefusalsTest::full, x -> x.lay(0, -1), Due.SIZE);
    }

    @Sentence(promise = 0, says = "Each act tells its findings in the order in which they are asked;")
    static void findingsOfWhatIsFoundInOrder() {
        foundFirst("size", x -> x.size(99, false), Due.BEYOND);
        foundFirst("left", x -> x.left(99, false), Due.BEYOND);
        foundFirst("foretold", x -> x.foretold(99, false), Due.BEYOND);
        foundFirst("doubt", x -> x.doubt(99, true, false), Due.BEYOND);
        foundFirst("behind", x -> x.behind(99, 99, 99, 99, 99, false), Due.BEYOND);
        foundFirst("worst", x -> x.span(0, 1, 0) + x.span(12, 1, 0) + x.worst(false), Due.OPEN);
        foundFirst("best", x -> x.span(0, 1, 0) + x.span(12, 1, 0) + x.best(), Due.OPEN);
        foundFirst("paper", x -> x.span(0, 1, 0) + x.span(12, 1, 0) + x.paper(), Due.OPEN);
        first("doubt: BEYOND ahead of OPEN", () -> Benches.plain(7), x -> x.doubt(1, true, false), Due.BEYOND);
        first("sum: NONE ahead of STALE", RefusalsTest::staleAndGone, x -> x.sum(false), Due.NONE);
        first("model: NONE ahead of STALE", RefusalsTest::staleAndGone, x -> x.model(), Due.NONE);
        first("spare: NONE ahead of STALE", RefusalsTest::staleAndGone, x -> x.spare(), Due.NONE);
        first("check: NONE ahead of STALE", RefusalsTest::staleAndGone, x -> x.check(), Due.NONE);
    }
}
