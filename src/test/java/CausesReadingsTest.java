/** Promises 1 to 10. */
public final class CausesReadingsTest {
    public static void main(String[] args) {
        newObject();
        cause();
        shows();
        as();
        read();
        drop();
        reading();
        sheet();
        put();
        lay();
        layFindings();
        Due.end();
    }

    private static void newObject() {
        WatchBench x = new WatchBench();
        for (int what = 0; what <= 5; what++) {
            Due.is("new: count(" + what + ")", x.count(what), 0);
        }
        for (int k = 1; k <= 7; k++) {
            Due.is("new: found(" + k + ")", x.found(k), 0);
        }
        Due.is("new: loose()", x.loose(), 0);
        Due.is("new: size", x.size(0, false), Due.NONE);
        Due.is("new: left", x.left(0, false), Due.NONE);
        Due.is("new: sum", x.sum(false), Due.NONE);
        Due.is("new: foretold", x.foretold(0, false), Due.NONE);
        Due.is("new: model", x.model(), Due.NONE);
        Due.is("new: back", x.back(), Due.NONE);
        Due.is("new: shows", x.shows(0, 0), Due.BEYOND);
        Due.is("new: reading", x.reading(0, 0), Due.BEYOND);
        Due.is("new: put on a missing sheet", x.put(2, 0, 0), Due.NONE);
        Due.is("new: lay a missing sheet", x.lay(2, 0), Due.NONE);
        WatchBench y = new WatchBench();
        x.cause(0, 0, 0);
        Due.is("another object has no causes", y.count(0), 0);
    }

    private static void causeIs(int kind, int a, int b, boolean allowed) {
        String what = "cause(" + kind + ", " + a + ", " + b + ")";
        Due.is(what, new WatchBench().cause(kind, a, b), allowed ? 0 : Due.BEYOND);
    }

    private static void cause() {
        int[] numbers = {Integer.MIN_VALUE, -4, -3, -2, -1, 0, 1, 2, 3, 4, 5, Integer.MAX_VALUE};
        for (int a : numbers) {
            for (int b : numbers) {
                boolean turned = a >= 0 && a <= 3 && b >= 1 && b <= 3;
                boolean small = a >= -2 && a <= 2 && b >= -2 && b <= 2;
                causeIs(-1, a, b, false);
                causeIs(0, a, b, true);
                causeIs(1, a, b, turned);
                causeIs(2, a, b, small);
                causeIs(3, a, b, small);
                causeIs(4, a, b, small);
                causeIs(5, a, b, turned);
                causeIs(6, a, b, false);
                causeIs(Integer.MIN_VALUE, a, b, false);
                causeIs(Integer.MAX_VALUE, a, b, false);
            }
        }
        WatchBench x = new WatchBench();
        for (int c = 0; c < 8; c++) {
            Due.is("cause number", x.cause(c % 6, 1, 1), c);
        }
        Due.is("ninth cause", x.cause(0, 0, 0), Due.FULL);
        Due.is("ninth cause, wrong: BEYOND is asked first", x.cause(1, 4, 1), Due.BEYOND);
        Due.is("causes", x.count(0), 8);
    }

    /** What is shown, written out from the document without regard to the program. */
    private static int shown(int kind, int a, int b, int p, int v, int w) {
        boolean cold = w == 0;
        boolean mild = w == 1;
        int hair = v == 0 ? a : b;
        boolean high = p == 2 + a;
        boolean opposite = p >= 2 && (p == 4 + a || p == a);
        switch (kind) {
            case 0: return 1;
            case 1: return high ? b : opposite ? -b : 0;
            case 2: return hair;
            case 3: return cold ? hair + 1 : hair;
            case 4: return mild ? b : cold ? -a : a;
            default: return high ? b : opposite ? -b : p >= 2 ? 1 : 0;
        }
    }

    private static void showsOf(int kind, int a, int b) {
        WatchBench x = new WatchBench();
        x.cause(kind, a, b);
        for (int p = 0; p < 6; p++) {
            for (int v = 0; v < 2; v++) {
                for (int w = 0; w < 3; w++) {
                    int state = 6 * p + 3 * v + w;
                    String what = "kind " + kind + " " + a + " " + b + " in " + state;
                    Due.is(what, x.shows(0, state), shown(kind, a, b, p, v, w));
                }
            }
        }
        Due.is("shows, no such cause", x.shows(1, 0), Due.BEYOND);
        Due.is("shows, no such cause", x.shows(-1, 0), Due.BEYOND);
        Due.is("shows, no such state", x.shows(0, 36), Due.BEYOND);
        Due.is("shows, no such state", x.shows(0, -1), Due.BEYOND);
        Due.is("shows, no such state", x.shows(0, Integer.MIN_VALUE), Due.BEYOND);
    }

    private static void shows() {
        showsOf(0, 7, -9);
        for (int a = -2; a <= 3; a++) {
            for (int b = -2; b <= 3; b++) {
                if (a >= 0 && b >= 1) {
                    showsOf(1, a, b);
                    showsOf(5, a, b);
                }
                if (a <= 2 && b <= 2) {
                    showsOf(2, a, b);
                    showsOf(3, a, b);
                    showsOf(4, a, b);
                }
            }
        }
    }

    private static void as() {
        WatchBench x = new WatchBench();
        x.cause(0, 7, 7);
        x.cause(1, 3, 1);
        x.cause(2, -2, 1);
        x.cause(3, -1, 1);
        x.cause(4, 2, 1);
        x.cause(5, 1, 2);
        long no = Due.KIND;
        long[][] due = {
            {0, no, no, no, no, no},
            {3, 3, no, no, no, no},
            {-2, no, -2, no, no, no},
            {-1, no, -1, -1, no, no},
            {2, no, no, no, 2, no},
            {1, 1, no, no, no, 1}};
        for (int c = 0; c < 6; c++) {
            for (int kind = 0; kind < 6; kind++) {
                Due.is("as(" + c + ", " + kind + ")", x.as(c, kind), due[c][kind]);
            }
            Due.is("as, no such kind", x.as(c, -1), Due.BEYOND);
            Due.is("as, no such kind", x.as(c, 6), Due.BEYOND);
        }
        Due.is("as, no such cause", x.as(6, 0), Due.BEYOND);
        Due.is("as, no such cause", x.as(-1, 0), Due.BEYOND);
        Due.is("KIND counted", x.found(3), 23);
    }

    private static void read() {
        WatchBench x = new WatchBench();
        Due.is("read(-1, 0)", x.read(-1, 0), Due.BEYOND);
        Due.is("read(36, 0)", x.read(36, 0), Due.BEYOND);
        Due.is("read(0, 301)", x.read(0, 301), Due.BEYOND);
        Due.is("read(0, -301)", x.read(0, -301), Due.BEYOND);
        for (int i = 0; i < 20; i++) {
            Due.is("read number", x.read(i % 2 == 0 ? 35 : 0, i % 2 == 0 ? 300 : -300), i);
        }
        Due.is("twenty-first reading", x.read(0, 0), Due.FULL);
        Due.is("twenty-first reading, wrong", x.read(0, 301), Due.BEYOND);
        Due.is("readings", x.count(1), 20);
    }

    private static void drop() {
        WatchBench x = new WatchBench();
        Due.is("drop of none", x.drop(0), Due.BEYOND);
        for (int i = 0; i < 20; i++) {
            x.read(i, 10 * i);
        }
        Due.is("drop(20)", x.drop(20), Due.BEYOND);
        Due.is("drop(-1)", x.drop(-1), Due.BEYOND);
        Due.is("drop(19)", x.drop(19), 19);
        Due.is("drop(0)", x.drop(0), 18);
        Due.is("drop(4)", x.drop(4), 17);
        int[] states = {1, 2, 3, 4, 6, 7, 8, 9, 10, 11, 12, 13, 14, 15, 16, 17, 18};
        for (int i = 0; i < states.length; i++) {
            Due.is("state behind drops", x.reading(i, 0), states[i]);
            Due.is("rate behind drops", x.reading(i, 1), 10 * states[i]);
        }
        Due.is("reading behind the last", x.reading(17, 0), Due.BEYOND);
        Due.is("read behind drops", x.read(9, 9), 17);
    }

    private static void reading() {
        WatchBench x = new WatchBench();
        x.read(35, -300);
        Due.is("reading(0, 0)", x.reading(0, 0), 35);
        Due.is("reading(0, 1)", x.reading(0, 1), -300);
        Due.is("reading(0, 2)", x.reading(0, 2), Due.BEYOND);
        Due.is("reading(0, -1)", x.reading(0, -1), Due.BEYOND);
        Due.is("reading(1, 0)", x.reading(1, 0), Due.BEYOND);
        Due.is("reading(-1, 0)", x.reading(-1, 0), Due.BEYOND);
    }

    private static void sheet() {
        WatchBench x = new WatchBench();
        Due.is("sheet(-1, 5)", x.sheet(-1, 5), Due.BEYOND);
        Due.is("sheet(3, -5): the sheet is asked first", x.sheet(3, -5), Due.BEYOND);
        Due.is("sheet(0, -2)", x.sheet(0, -2), Due.SIZE);
        Due.is("sheet(0, least)", x.sheet(0, Integer.MIN_VALUE), Due.SIZE);
        Due.is("sheet(0, 37)", x.sheet(0, 37), Due.BEYOND);
        Due.is("sheet(0, greatest)", x.sheet(0, Integer.MAX_VALUE), Due.BEYOND);
        Due.is("sheet(2, 36)", x.sheet(2, 36), 36);
        Due.is("sheet(1, 0)", x.sheet(1, 0), 0);
        Due.is("lay of no places", x.lay(1, 0), 0);
        Due.is("place of none", x.put(1, 0, 0), Due.BEYOND);
        Due.is("last place", x.put(2, 35, 7), 7);
        Due.is("lay of the last place alone", x.lay(2, 36), 1);
        Due.is("its state", x.reading(0, 0), 35);
        Due.is("SIZE changes nothing", x.sheet(2, -2), Due.SIZE);
        Due.is("BEYOND changes nothing", x.sheet(2, 37), Due.BEYOND);
        Due.is("lay once more", x.lay(2, 36), 2);
        Due.is("sheet anew", x.sheet(2, 36), 36);
        Due.is("places aren't read then", x.lay(2, 36), 2);
        Due.is("sheet missing", x.sheet(2, -1), -1);
        Due.is("a missing sheet answers NONE", x.lay(2, 0), Due.NONE);
        Due.is("findings: SIZE", x.found(4), 3);
        x.sheet(0, 2);
        x.put(0, 1, 5);
        x.sheet(0, 1);
        x.sheet(0, 2);
        Due.is("what was cut off is not read", x.lay(0, 2), 2);
    }

    private static void put() {
        WatchBench x = new WatchBench();
        Due.is("put(3, ..)", x.put(3, 0, 0), Due.BEYOND);
        Due.is("put(-1, ..)", x.put(-1, 0, 0), Due.BEYOND);
        Due.is("put on missing", x.put(0, 99, 0), Due.NONE);
        x.sheet(0, 3);
        x.sheet(1, 3);
        Due.is("put(0, 3, ..)", x.put(0, 3, 0), Due.BEYOND);
        Due.is("put(0, -1, ..)", x.put(0, -1, 0), Due.BEYOND);
        Due.is("put 32767", x.put(0, 0, 32767), 32767);
        Due.is("put 32768", x.put(0, 0, 32768), -32768);
        Due.is("put 65535", x.put(0, 0, 65535), -1);
        Due.is("put -65536 + 3", x.put(0, 0, -65533), 3);
        Due.is("put least", x.put(0, 1, Integer.MIN_VALUE), 0);
        Due.is("put greatest", x.put(0, 2, Integer.MAX_VALUE), -1);
        Due.is("lay what was put", x.lay(0, 3), 3);
        Due.is("rate 0", x.reading(0, 1), 3);
        Due.is("rate 1", x.reading(1, 1), 0);
        Due.is("rate 2", x.reading(2, 1), -1);
        Due.is("the other sheet is not written", x.lay(1, 3), 3);
    }

    private static void lay() {
        WatchBench x = new WatchBench();
        x.read(30, 3);
        x.sheet(0, 4);
        x.put(0, 0, -300);
        x.put(0, 2, 300);
        x.put(0, 3, 301);
        Due.is("lay(0, 4) with 301", x.lay(0, 4), Due.BEYOND);
        Due.is("nothing was laid", x.count(1), 1);
        Due.is("lay(0, 3)", x.lay(0, 3), 3);
        Due.is("the one ahead stays", x.reading(0, 0), 30);
        Due.is("laid state", x.reading(1, 0), 0);
        Due.is("laid rate", x.reading(1, 1), -300);
        Due.is("laid state", x.reading(2, 0), 2);
        Due.is("laid rate", x.reading(2, 1), 300);
        Due.is("lay(0, 0)", x.lay(0, 0), 3);
        x.put(0, 3, -301);
        Due.is("lay(0, 4) with -301", x.lay(0, 4), Due.BEYOND);
        x.put(0, 3, -32768);
        Due.is("lay(0, 4) with one not read", x.lay(0, 4), 5);
    }

    private static void layFindings() {
        WatchBench x = new WatchBench();
        Due.is("lay(3, -1)", x.lay(3, -1), Due.BEYOND);
        Due.is("lay(-1, -1)", x.lay(-1, -1), Due.BEYOND);
        Due.is("lay(0, -1) of a missing one", x.lay(0, -1), Due.NONE);
        x.sheet(0, 36);
        for (int i = 0; i < 36; i++) {
            x.put(0, i, i);
        }
        Due.is("lay(0, -1)", x.lay(0, -1), Due.SIZE);
        Due.is("lay(0, 37)", x.lay(0, 37), Due.BEYOND);
        Due.is("lay(0, 21)", x.lay(0, 21), Due.FULL);
        Due.is("nothing was laid", x.count(1), 0);
        Due.is("lay(0, 20)", x.lay(0, 20), 20);
        Due.is("lay(0, 1) of a full row", x.lay(0, 1), Due.FULL);
        Due.is("lay(0, 0) of a full row", x.lay(0, 0), 20);
        x.put(0, 0, 301);
        Due.is("BEYOND is asked ahead of FULL", x.lay(0, 1), Due.BEYOND);
        x.put(0, 0, -32768);
        Due.is("not read, so not too many", x.lay(0, 1), 20);
    }
}
