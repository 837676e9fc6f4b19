/** Promises 27 to 30. */
public final class TrialsTest {
    public static void main(String[] args) {
        day();
        anew();
        mean();
        change();
        Due.end();
    }

    private static void day() {
        WatchBench x = new WatchBench();
        Due.is("state -1", x.day(-1, 0), Due.BEYOND);
        Due.is("state 36", x.day(36, 0), Due.BEYOND);
        Due.is("gain 1001", x.day(0, 1001), Due.BEYOND);
        Due.is("gain -1001", x.day(0, -1001), Due.BEYOND);
        for (int i = 1; i <= 60; i++) {
            Due.is("days", x.day(35, i % 2 == 0 ? 1000 : -1000), i);
        }
        Due.is("day 61", x.day(0, 0), Due.FULL);
        Due.is("day 61, wrong", x.day(0, 1001), Due.BEYOND);
        Due.is("days", x.count(4), 60);
        Due.is("mean of all", x.mean(-1, false), x.mean(-1, true), 0, 1);
        Due.is("greatest change", x.change(5), 2000);
    }

    private static void anew() {
        WatchBench x = new WatchBench();
        Due.is("none", x.anew(), 0);
        x.day(0, 1);
        x.day(0, 2);
        Due.is("two", x.anew(), 2);
        Due.is("none then", x.count(4), 0);
        Due.is("no mean then", x.mean(-1, false), Due.OPEN);
        Due.is("first day", x.day(6, 5), 1);
        Due.is("its mean", x.mean(-1, false), 5);
    }

    private static void mean() {
        WatchBench x = new WatchBench();
        Due.is("position -2", x.mean(-2, false), Due.BEYOND);
        Due.is("position 6", x.mean(6, false), Due.BEYOND);
        Due.is("no day", x.mean(-1, true), Due.OPEN);
        x.day(5, 10);
        x.day(6, -3);
        x.day(0, 5);
        x.day(11, -4);
        x.day(3, 6);
        x.day(30, -9);
        Due.is("dial up", x.mean(0, false), x.mean(0, true), 7, 1);
        Due.is("dial down", x.mean(1, false), x.mean(1, true), -7, 2);
        Due.is("hanging", x.mean(5, false), x.mean(5, true), -9, 1);
        Due.is("no such day", x.mean(2, false), Due.OPEN);
        Due.is("all", x.mean(-1, false), x.mean(-1, true), 5, 6);
        x.day(12, 0);
        Due.is("0 / 1", x.mean(2, false), x.mean(2, true), 0, 1);
    }

    private static void change() {
        WatchBench x = new WatchBench();
        Due.is("position -2", x.change(-2), Due.BEYOND);
        Due.is("position 6", x.change(6), Due.BEYOND);
        Due.is("no day", x.change(-1), Due.OPEN);
        x.day(0, 10);
        Due.is("one day", x.change(-1), Due.OPEN);
        Due.is("one day", x.change(0), Due.OPEN);
        x.day(12, 90);
        Due.is("two days", x.change(-1), 80);
        Due.is("one day at it", x.change(0), Due.OPEN);
        x.day(3, 10);
        Due.is("no change", x.change(0), 0);
        x.day(4, -5);
        x.day(17, 91);
        Due.is("others left out", x.change(0), 15);
        Due.is("others left out", x.change(2), 1);
        Due.is("downwards and up", x.change(-1), 96);
        x.anew();
        x.day(0, 100);
        x.day(0, -100);
        x.day(0, -50);
        Due.is("downwards", x.change(-1), 200);
    }
}
