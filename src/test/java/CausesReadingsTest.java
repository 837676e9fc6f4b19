/** Promises 1 to 10, a test for each sentence. */
public final class CausesReadingsTest {
    private static final int LEAST = Integer.MIN_VALUE;
    private static final int GREATEST = Integer.MAX_VALUE;

    public static void main(String[] args) throws IllegalAccessException {
        Sentences.run(CausesReadingsTest.class);
    }

    /* ---- promise 1: a new object ---- */

    @Sentence(promise = 1, says = "No causes,")
    static void newWithoutCauses() {
        WatchBench x = new WatchBench();
        Due.is("count", x.count(0), 0);
        Due.is("shows", x.shows(0, 0), Due.BEYOND);
        Due.is("as", x.as(0, 0), Due.BEYOND);
        Due.is("find", x.find(1), Due.BEYOND);
        Due.is("few", x.few(1), Due.NONE);
        Due.is("mend", x.mend(0, 0), Due.BEYOND);
        Due.is("the first one's number", x.cause(0, 0, 0), 0);
        Due.is("another object has none", new WatchBench().count(0), 0);
    }

    @Sentence(promise = 1, says = "no readings,")
    static void newWithoutReadings() {
        WatchBench x = new WatchBench();
        Due.is("count", x.count(1), 0);
        Due.is("reading", x.reading(0, 0), Due.BEYOND);
        Due.is("drop", x.drop(0), Due.BEYOND);
        x.cause(0, 0, 0);
        Due.is("nothing is firm", x.find(1), Due.OPEN);
        Due.is("the first one's number", x.read(0, 0), 0);
        // the document names no sheets here: a sheet that was never made is missing
        Due.is("put on a sheet", x.put(2, 0, 0), Due.NONE);
        Due.is("lay a sheet", x.lay(2, 0), Due.NONE);
    }

    @Sentence(promise = 1, says = "no mends,")
    static void newWithoutMends() {
        WatchBench x = Benches.plain(5);
        Due.is("count", x.count(2), 0);
        Due.is("behind", x.behind(0, 0, 0, 0, 0, false), Due.BEYOND);
        Due.is("the first one's number", x.mend(0, 0), 0);
    }

    @Sentence(promise = 1, says = "no spans;")
    static void newWithoutSpans() {
        WatchBench x = Benches.plain(5);
        Due.is("count", x.count(3), 0);
        Due.is("worst", x.worst(false), Due.OPEN);
        Due.is("best", x.best(), Due.OPEN);
        Due.is("paper", x.paper(), Due.OPEN);
    }

    @Sentence(promise = 1, says = "nothing found.")
    static void newWithNothingFound() {
        WatchBench x = new WatchBench();
        for (int k = 1; k <= 7; k++) {
            Due.is("found(" + k + ")", x.found(k), 0);
        }
        Due.is("loose", x.loose(), 0);
        Due.is("size", x.size(0, false), Due.NONE);
        Due.is("model", x.model(), Due.NONE);
        Due.is("back", x.back(), Due.NONE);
        Due.is("days", x.count(4), 0);
        Due.is("numbers that wait", x.count(5), 0);
    }

    /* ---- promise 2: cause ---- */

    @Sentence(promise = 2, says = "A new cause: its number.")
    static void causesAreNumberedFromNought() {
        WatchBench x = new WatchBench();
        for (int c = 0; c < 8; c++) {
            Due.is("number", x.cause(c % 6, 1, 1), c);
            Due.is("causes", x.count(0), c + 1);
        }
        Due.is("the first is as it was made", x.shows(0, 0), 1);
        Due.is("the last is as it was made", x.shows(7, 18), 1);
    }

    @Sentence(promise = 2, says = "BEYOND: kind isn't 0 .. 5,")
    static void noSuchKindOfCause() {
        Due.takesJust("kind", 0, 5, kind -> new WatchBench().cause(kind, 1, 1));
    }

    @Sentence(promise = 2, says = "or a or b isn't as told for it.")
    static void causesNumbersAsTold() {
        int[] numbers = {LEAST, -4, -3, -2, -1, 0, 1, 2, 3, 4, 5, GREATEST};
        for (int a : numbers) {
            for (int b : numbers) {
                boolean turned = a >= 0 && a <= 3 && b >= 1 && b <= 3;
                boolean small = a >= -2 && a <= 2 && b >= -2 && b <= 2;
                boolean[] allowed = {true, turned, small, small, small, turned};
                for (int kind = 0; kind < 6; kind++) {
                    String what = "cause(" + kind + ", " + a + ", " + b + ")";
                    Due.is(what, new WatchBench().cause(kind, a, b), allowed[kind] ? 0 : Due.BEYOND);
                }
            }
        }
    }

    @Sentence(promise = 2, says = "FULL: there are 8.")
    static void ninthCause() {
        WatchBench x = new WatchBench();
        for (int c = 0; c < 7; c++) {
            x.cause(0, 0, 0);
        }
        Due.is("the eighth is taken", x.cause(0, 0, 0), 7);
        Due.is("the ninth", x.cause(0, 0, 0), Due.FULL);
        Due.is("the ninth, of any kind", x.cause(5, 3, 3), Due.FULL);
        Due.is("there are 8 still", x.count(0), 8);
        Due.is("and no more", x.shows(8, 0), Due.BEYOND);
    }

    /* ---- promise 3: shows ---- */

    @Sentence(promise = 3, says = "What cause c shows in a state.")
    static void showsByCauseAndState() {
        WatchBench x = new WatchBench();
        x.cause(1, 3, 3);
        x.cause(2, -2, 2);
        Due.is("the first cause in the last state", x.shows(0, 35), 3);
        Due.is("the first cause in the first state", x.shows(0, 0), 0);
        Due.is("the last cause in the first state", x.shows(1, 0), -2);
        Due.is("the last cause in the last state", x.shows(1, 35), 2);
    }

    @Sentence(promise = 3, says = "BEYOND: there is no such cause,")
    static void showsOfNoCause() {
        WatchBench x = Benches.watch();
        Due.takesJust("cause", 0, 2, c -> x.shows(c, 0));
        Due.is("without causes", new WatchBench().shows(0, 0), Due.BEYOND);
    }

    @Sentence(promise = 3, says = "or state.")
    static void showsInNoState() {
        WatchBench x = Benches.watch();
        Due.takesJust("state", 0, 35, state -> x.shows(0, state));
    }

    /* ---- promise 4: as ---- */

    private static WatchBench oneOfEachKind() {
        WatchBench x = new WatchBench();
        x.cause(0, 7, 7);
        x.cause(1, 3, 1);
        x.cause(2, -2, 1);
        x.cause(3, -1, 1);
        x.cause(4, 2, 1);
        x.cause(5, 1, 2);
        return x;
    }

    @Sentence(promise = 4, says = "Cause c as one of a kind: its number a.")
    static void asOfItsKindsAndThoseOver() {
        WatchBench x = oneOfEachKind();
        int[][] due = {{1, 1, 3}, {1, 0, 3}, {2, 2, -2}, {2, 0, -2}, {3, 3, -1}, {3, 2, -1}, {3, 0, -1}, {4, 4, 2},
            {4, 0, 2}, {5, 5, 1}, {5, 1, 1}, {5, 0, 1}};
        for (int[] one : due) {
            Due.is("as(" + one[0] + ", " + one[1] + ")", x.as(one[0], one[1]), one[2]);
        }
    }

    @Sentence(promise = 4, says = "BEYOND: there is no such cause,")
    static void asOfNoCause() {
        WatchBench x = oneOfEachKind();
        Due.takesJust("cause", 0, 5, c -> x.as(c, 0));
        Due.is("without causes", new WatchBench().as(0, 0), Due.BEYOND);
    }

    @Sentence(promise = 4, says = "or kind.")
    static void asOfNoKind() {
        WatchBench x = oneOfEachKind();
        Due.takesJust("kind", 0, 5, kind -> x.as(5, kind));
        for (int c = 0; c < 6; c++) {
            Due.is("kind -1 of " + c, x.as(c, -1), Due.BEYOND);
            Due.is("kind 6 of " + c, x.as(c, 6), Due.BEYOND);
        }
    }

    @Sentence(promise = 4, says = "KIND: it isn't of that kind, nor of one under it.")
    static void asOfAnotherKind() {
        WatchBench x = oneOfEachKind();
        int[][] others = {{1, 2, 3, 4, 5}, {2, 3, 4, 5}, {1, 3, 4, 5}, {1, 4, 5}, {1, 2, 3, 5}, {2, 3, 4}};
        for (int c = 0; c < 6; c++) {
            for (int kind : others[c]) {
                Due.is("as(" + c + ", " + kind + ")", x.as(c, kind), Due.KIND);
            }
        }
    }

    @Sentence(promise = 4, says = "(Of CAUSE's own kind alone 0.)")
    static void asOfPlainIsNought() {
        WatchBench x = new WatchBench();
        x.cause(0, 3, 2);
        x.cause(0, LEAST, GREATEST);
        x.cause(2, -2, 0);
        Due.is("a of a plain cause is not looked at", x.as(0, 0), 0);
        Due.is("nor the least a", x.as(1, 0), 0);
        Due.is("a of one under it is", x.as(2, 0), -2);
    }

    /* ---- promise 5: read ---- */

    @Sentence(promise = 5, says = "A new reading: its number.")
    static void readingsAreNumberedFromNought() {
        WatchBench x = new WatchBench();
        for (int i = 0; i < 20; i++) {
            Due.is("number", x.read(35 - i, 300 - i), i);
            Due.is("readings", x.count(1), i + 1);
        }
        x.drop(3);
        Due.is("number behind a drop", x.read(0, 0), 19);
    }

    @Sentence(promise = 5, says = "BEYOND: there is no such state,")
    static void readInNoState() {
        Due.takesJust("state", 0, 35, state -> new WatchBench().read(state, 0));
    }

    @Sentence(promise = 5, says = "or rate isn't -300 .. 300.")
    static void readNoSuchRate() {
        Due.takesJust("rate", -300, 300, rate -> new WatchBench().read(0, rate));
        WatchBench x = new WatchBench();
        x.read(0, 301);
        Due.is("one refused is no reading", x.count(1), 0);
    }

    @Sentence(promise = 5, says = "FULL: there are 20.")
    static void readTheTwentyFirst() {
        WatchBench x = new WatchBench();
        for (int i = 0; i < 19; i++) {
            x.read(0, i);
        }
        Due.is("the twentieth is taken", x.read(35, 7), 19);
        Due.is("the twenty-first", x.read(35, 8), Due.FULL);
        Due.is("there are 20 still", x.count(1), 20);
        Due.is("the last stays", x.reading(19, 1), 7);
        x.drop(0);
        Due.is("there is room behind a drop", x.read(35, 8), 19);
    }

    /* ---- promise 6: drop ---- */

    private static WatchBench twentyReadings() {
        WatchBench x = new WatchBench();
        for (int i = 0; i < 20; i++) {
            x.read(i, 10 * i);
        }
        return x;
    }

    @Sentence(promise = 6, says = "Reading i is no more; those behind it get the number one less:")
    static void dropMovesThoseBehind() {
        WatchBench x = twentyReadings();
        x.drop(19);
        x.drop(0);
        x.drop(4);
        int[] states = {1, 2, 3, 4, 6, 7, 8, 9, 10, 11, 12, 13, 14, 15, 16, 17, 18};
        for (int i = 0; i < states.length; i++) {
            Due.is("state", x.reading(i, 0), states[i]);
            Due.is("rate", x.reading(i, 1), 10 * states[i]);
        }
        Due.is("none behind the last", x.reading(17, 0), Due.BEYOND);
    }

    @Sentence(promise = 6, says = "how many are left.")
    static void dropTellsHowManyAreLeft() {
        WatchBench x = twentyReadings();
        Due.is("the last of a full row", x.drop(19), 19);
        for (int left = 18; left >= 0; left--) {
            Due.is("left", x.drop(0), left);
            Due.is("readings", x.count(1), left);
        }
    }

    @Sentence(promise = 6, says = "BEYOND: there is none such.")
    static void dropOfNone() {
        Due.is("of an empty row", new WatchBench().drop(0), Due.BEYOND);
        Due.takesJust("reading", 0, 19, i -> twentyReadings().drop(i));
        WatchBench x = twentyReadings();
        x.drop(19);
        Due.is("one that is no more", x.drop(19), Due.BEYOND);
        Due.is("nothing more is gone", x.count(1), 19);
    }

    /* ---- promise 7: reading ---- */

    @Sentence(promise = 7, says = "Of reading i: 0 its state, 1 its rate.")
    static void readingTellsStateAndRate() {
        WatchBench x = new WatchBench();
        x.read(35, -300);
        x.read(0, 300);
        Due.is("state", x.reading(0, 0), 35);
        Due.is("rate", x.reading(0, 1), -300);
        Due.is("state of the last", x.reading(1, 0), 0);
        Due.is("rate of the last", x.reading(1, 1), 300);
    }

    @Sentence(promise = 7, says = "BEYOND: there is none such,")
    static void readingOfNone() {
        WatchBench x = twentyReadings();
        Due.takesJust("reading's state", 0, 19, i -> x.reading(i, 0));
        Due.takesJust("reading's rate", 0, 19, i -> x.reading(i, 1));
        Due.is("of an empty row", new WatchBench().reading(0, 1), Due.BEYOND);
    }

    @Sentence(promise = 7, says = "or another what.")
    static void readingOfAnotherWhat() {
        WatchBench x = twentyReadings();
        Due.takesJust("what", 0, 1, what -> x.reading(0, what));
    }

    /* ---- promise 8: sheet ---- */

    @Sentence(promise = 8, says = "Sheet s (0 .. 2) has n places, each a rate that wasn't read (-32768): n;")
    static void sheetOfPlacesNotRead() {
        WatchBench x = new WatchBench();
        Due.is("the least sheet", x.sheet(0, 0), 0);
        Due.is("the greatest sheet", x.sheet(2, 36), 36);
        Due.is("its last place", x.put(2, 35, 7), 7);
        Due.is("the empty one's first place", x.put(0, 0, 7), Due.BEYOND);
        Due.is("lay of none", x.lay(0, 0), 0);
        Due.is("lay of the last place alone", x.lay(2, 36), 1);
        Due.is("made anew", x.sheet(2, 36), 36);
        Due.is("its places aren't read then", x.lay(2, 36), 1);
        x.sheet(1, 2);
        x.put(1, 1, 5);
        x.sheet(1, 1);
        x.sheet(1, 2);
        Due.is("what was cut off is not read again", x.lay(1, 2), 1);
    }

    @Sentence(promise = 8, says = "n -1: it is missing from now on: -1.")
    static void sheetMissing() {
        WatchBench x = new WatchBench();
        x.sheet(0, 2);
        x.sheet(1, 2);
        Due.is("sheet(0, -1)", x.sheet(0, -1), -1);
        Due.is("put", x.put(0, 0, 1), Due.NONE);
        Due.is("lay", x.lay(0, 0), Due.NONE);
        Due.is("missing once more", x.sheet(0, -1), -1);
        Due.is("the others aren't", x.put(1, 0, 1), 1);
        Due.is("made again", x.sheet(0, 1), 1);
        Due.is("it isn't missing then", x.lay(0, 1), 0);
    }

    @Sentence(promise = 8, says = "BEYOND: there is no such sheet.")
    static void noSuchSheet() {
        Due.takesJust("sheet", 0, 2, s -> new WatchBench().sheet(s, 3));
        Due.is("nor can it be missing", new WatchBench().sheet(3, -1), Due.BEYOND);
    }

    @Sentence(promise = 8, says = "SIZE: n is below -1.")
    static void sheetTooSmall() {
        WatchBench x = new WatchBench();
        Due.is("-2", x.sheet(0, -2), Due.SIZE);
        Due.is("the least", x.sheet(0, LEAST), Due.SIZE);
        x.sheet(1, 1);
        x.put(1, 0, 4);
        x.sheet(1, -2);
        Due.is("the sheet stays as it was", x.lay(1, 1), 1);
    }

    @Sentence(promise = 8, says = "BEYOND: n is above 36.")
    static void sheetTooLarge() {
        WatchBench x = new WatchBench();
        Due.is("36 is taken", x.sheet(0, 36), 36);
        x.put(0, 35, 4);
        Due.is("37", x.sheet(0, 37), Due.BEYOND);
        Due.is("the greatest", x.sheet(0, GREATEST), Due.BEYOND);
        Due.is("the sheet stays as it was", x.lay(0, 36), 1);
    }

    /* ---- promise 9: put ---- */

    @Sentence(promise = 9, says = "Place i of sheet s becomes v (its lowest 16 bits, with sign): that.")
    static void putWrapsAround() {
        WatchBench x = new WatchBench();
        x.sheet(0, 3);
        x.sheet(1, 3);
        int[][] due = {{0, 0}, {300, 300}, {-300, -300}, {32767, 32767}, {32768, -32768}, {-32768, -32768},
            {-32769, 32767}, {65535, -1}, {65536, 0}, {65537, 1}, {-65533, 3}, {-65536, 0}, {LEAST, 0}, {GREATEST, -1}};
        for (int[] one : due) {
            Due.is("put " + one[0], x.put(0, 0, one[0]), one[1]);
        }
        x.put(0, 0, 65536 + 299);
        x.put(0, 2, -65536 - 300);
        Due.is("two of the places are read", x.lay(0, 3), 2);
        Due.is("a rate, wrapped around", x.reading(0, 1), 299);
        Due.is("a rate below 0, wrapped around", x.reading(1, 1), -300);
        Due.is("its place", x.reading(1, 0), 2);
        Due.is("another sheet is not written", x.lay(1, 3), 2);
        x.put(0, 0, 32768);
        Due.is("one that wraps around to -32768 isn't read", x.lay(0, 1), 2);
    }

    @Sentence(promise = 9, says = "BEYOND: there is no such sheet.")
    static void putOnNoSheet() {
        WatchBench x = new WatchBench();
        x.sheet(0, 1);
        x.sheet(2, 1);
        Due.takesJust("sheet", 0, 2, s -> x.put(s, 0, 1));
    }

    @Sentence(promise = 9, says = "NONE: it is missing.")
    static void putOnAMissingSheet() {
        WatchBench x = new WatchBench();
        Due.is("never made", x.put(1, 0, 1), Due.NONE);
        x.sheet(1, 3);
        x.sheet(1, -1);
        Due.is("missing", x.put(1, 0, 1), Due.NONE);
        x.sheet(1, 0);
        Due.is("an empty one isn't missing", x.put(1, 0, 1), Due.BEYOND);
    }

    @Sentence(promise = 9, says = "BEYOND: it has no such place.")
    static void putAtNoPlace() {
        WatchBench x = new WatchBench();
        x.sheet(0, 3);
        x.sheet(1, 36);
        x.sheet(2, 0);
        Due.takesJust("place of three", 0, 2, i -> x.put(0, i, 1));
        Due.takesJust("place of most", 0, 35, i -> x.put(1, i, 1));
        for (int i = 3; i < 36; i++) {
            Due.is("place " + i + " of three", x.put(0, i, 1), Due.BEYOND);
            Due.is("place " + i + " of none", x.put(2, i, 1), Due.BEYOND);
        }
        Due.is("first place of none", x.put(2, 0, 1), Due.BEYOND);
    }

    /* ---- promise 10: lay ---- */

    @Sentence(promise = 10, says = "Places 0 .. n - 1 of sheet s are readings of states 0 .. n - 1")
    static void layMakesReadings() {
        WatchBench x = new WatchBench();
        x.read(30, 3);
        x.sheet(0, 4);
        int[] rates = {-300, 0, 300, 7};
        for (int i = 0; i < 4; i++) {
            x.put(0, i, rates[i]);
        }
        x.lay(0, 3);
        Due.is("the one ahead stays", x.reading(0, 0), 30);
        for (int i = 0; i < 3; i++) {
            Due.is("state", x.reading(1 + i, 0), i);
            Due.is("rate", x.reading(1 + i, 1), rates[i]);
        }
        Due.is("place n is not laid", x.reading(4, 0), Due.BEYOND);
        x.put(0, 0, 9);
        Due.is("readings are no more of the sheet", x.reading(1, 1), -300);
    }

    @Sentence(promise = 10, says = "(those not read are left out):")
    static void layLeavesOutThoseNotRead() {
        WatchBench x = new WatchBench();
        x.sheet(0, 36);
        Due.is("none is read", x.lay(0, 36), 0);
        x.put(0, 35, 5);
        Due.is("only the last is read", x.lay(0, 36), 1);
        Due.is("its state", x.reading(0, 0), 35);
        x.put(0, 0, 5);
        x.put(0, 0, Benches.NOT_READ);
        Due.is("one put back to not read", x.lay(0, 1), 1);
    }

    @Sentence(promise = 10, says = "how many readings there are then.")
    static void layTellsHowManyReadings() {
        WatchBench x = new WatchBench();
        x.sheet(0, 2);
        Due.is("none", x.lay(0, 0), 0);
        x.put(0, 0, 1);
        x.put(0, 1, 2);
        Due.is("one", x.lay(0, 1), 1);
        Due.is("two more", x.lay(0, 2), 3);
        Due.is("none more", x.lay(0, 0), 3);
        Due.is("count", x.count(1), 3);
    }

    @Sentence(promise = 10, says = "BEYOND: there is no such sheet.")
    static void layNoSheet() {
        WatchBench x = new WatchBench();
        x.sheet(0, 1);
        x.sheet(2, 1);
        Due.takesJust("sheet", 0, 2, s -> x.lay(s, 0));
    }

    @Sentence(promise = 10, says = "NONE.")
    static void layAMissingSheet() {
        WatchBench x = new WatchBench();
        Due.is("never made", x.lay(0, 0), Due.NONE);
        x.sheet(0, 3);
        x.sheet(0, -1);
        Due.is("missing", x.lay(0, 0), Due.NONE);
        x.sheet(0, 0);
        Due.is("an empty one isn't missing", x.lay(0, 0), 0);
    }

    @Sentence(promise = 10, says = "SIZE: n is below 0.")
    static void layTooFew() {
        WatchBench x = new WatchBench();
        x.sheet(0, 3);
        Due.is("-1", x.lay(0, -1), Due.SIZE);
        Due.is("the least", x.lay(0, LEAST), Due.SIZE);
        Due.is("0 is taken", x.lay(0, 0), 0);
    }

    @Sentence(promise = 10, says = "BEYOND: it has not so many,")
    static void layTooMany() {
        WatchBench x = new WatchBench();
        x.sheet(0, 3);
        x.sheet(1, 36);
        x.sheet(2, 0);
        x.put(0, 0, 5);
        Due.is("one more than there are", x.lay(0, 4), Due.BEYOND);
        Due.is("nothing was laid", x.count(1), 0);
        Due.is("just as many as there are", x.lay(0, 3), 1);
        Due.is("37", x.lay(1, 37), Due.BEYOND);
        Due.is("the greatest", x.lay(1, GREATEST), Due.BEYOND);
        Due.is("one of none", x.lay(2, 1), Due.BEYOND);
    }

    @Sentence(promise = 10, says = "or one of them isn't -300 .. 300.")
    static void layNoSuchRate() {
        int[] wrong = {301, -301, 32767, -32767};
        for (int rate : wrong) {
            WatchBench x = new WatchBench();
            x.sheet(0, 3);
            x.put(0, 0, 300);
            x.put(0, 1, -300);
            x.put(0, 2, rate);
            Due.is("the last of them is " + rate, x.lay(0, 3), Due.BEYOND);
            Due.is("nothing was laid", x.count(1), 0);
            Due.is("it isn't one of the first two", x.lay(0, 2), 2);
            x.put(0, 0, rate);
            Due.is("the first of them is " + rate, x.lay(0, 1), Due.BEYOND);
        }
    }

    @Sentence(promise = 10, says = "FULL: there would be more than 20.")
    static void layBeyondTwenty() {
        WatchBench x = new WatchBench();
        x.sheet(0, 36);
        for (int i = 0; i < 36; i++) {
            x.put(0, i, i);
        }
        Due.is("21", x.lay(0, 21), Due.FULL);
        Due.is("nothing was laid", x.count(1), 0);
        Due.is("just 20", x.lay(0, 20), 20);
        Due.is("one more", x.lay(0, 1), Due.FULL);
        Due.is("none more", x.lay(0, 0), 20);
        x.put(0, 0, Benches.NOT_READ);
        Due.is("one that isn't read", x.lay(0, 1), 20);
        x.drop(0);
        Due.is("two into room for one", x.lay(0, 3), Due.FULL);
        Due.is("one into room for one", x.lay(0, 2), 20);
    }
}
