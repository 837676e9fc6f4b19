/** Benches that tests begin with. */
final class Benches {
    static final int NOT_READ = -32768;

    private Benches() {
    }

    /** One plain cause and readings of these rates, dial up, found: its size is their mean. */
    static WatchBench plain(int... rates) {
        WatchBench x = new WatchBench();
        x.cause(0, 0, 0);
        for (int rate : rates) {
            x.read(0, rate);
        }
        x.find(1);
        return x;
    }

    /** As plain, with a span in state 0, so that WORST is the mean without sign; and mends of the cause. */
    static WatchBench mended(int rate, int... steps) {
        WatchBench x = plain(rate);
        x.span(0, 0, 0);
        for (int by : steps) {
            x.mend(0, by);
        }
        return x;
    }

    /** Causes 0 plain, 1 poise and 2 hair with five readings; nothing found. All three have sizes 33, 35/2 and 13. */
    static WatchBench watch() {
        WatchBench x = new WatchBench();
        x.cause(0, 0, 0);
        x.cause(1, 0, 2);
        x.cause(2, 1, -1);
        x.read(0, 50);
        x.read(12, 80);
        x.read(24, 10);
        x.read(3, 20);
        x.read(18, 44);
        return x;
    }

    /** Eight causes and twenty readings with the greatest numbers: products of their fractions' parts pass a long. */
    static WatchBench great() {
        WatchBench x = new WatchBench();
        int[][] causes = {{3, 2, -2}, {5, 0, 3}, {5, 1, 3}, {3, -2, 2}, {1, 2, 3}, {4, 2, 2}, {3, 2, 2}, {1, 3, 3}};
        for (int[] cause : causes) {
            x.cause(cause[0], cause[1], cause[2]);
        }
        int[] states = {12, 15, 18, 21, 24, 27, 30, 33, 12, 15, 18, 21, 24, 27, 30, 33, 12, 18, 24, 31};
        for (int i = 0; i < states.length; i++) {
            x.read(states[i], i % 3 == 0 ? -300 : 300 - i);
        }
        return x;
    }

    /** Four causes and twenty readings whose sizes have parts so great that a double can't hold them exactly. */
    static WatchBench fine() {
        WatchBench x = new WatchBench();
        x.cause(4, -2, -1);
        x.cause(5, 3, 3);
        x.cause(3, 2, 2);
        x.cause(5, 2, 3);
        int[] states = {5, 26, 19, 19, 4, 25, 14, 30, 15, 21, 13, 29, 18, 32, 12, 5, 29, 21, 22, 17};
        int[] rates = {169, -134, -280, -168, 134, 125, 116, -222, 107, -140, -158, 50, -98, 195, -208, 19, -4, 281, -56, 81};
        for (int i = 0; i < states.length; i++) {
            x.read(states[i], rates[i]);
        }
        return x;
    }

    static WatchBench foundWatch() {
        WatchBench x = watch();
        x.find(7);
        return x;
    }

    /** As many causes, readings, mends, days and numbers that wait as there may be. */
    static WatchBench full() {
        WatchBench x = new WatchBench();
        for (int c = 0; c < 8; c++) {
            x.cause(c % 6, 1, 1 + c / 6);
        }
        for (int i = 0; i < 20; i++) {
            x.read(7 * i % 36, 13 * i - 100);
        }
        for (int m = 0; m < 8; m++) {
            x.mend(m, 10 * m - 35);
        }
        for (int i = 0; i < 60; i++) {
            x.day(5 * i % 36, 7 * i - 200);
        }
        for (int i = 0; i < 16; i++) {
            x.tell(i);
        }
        return x;
    }
}
