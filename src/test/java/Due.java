import java.util.function.IntToLongFunction;

/** What a test's calls answered against what is due; a test ends with end(). */
final class Due {
    static final long LOW = -9000000000000000000L;
    static final long BEYOND = -9000000000000000001L;
    static final long NONE = -9000000000000000002L;
    static final long KIND = -9000000000000000003L;
    static final long SIZE = -9000000000000000004L;
    static final long FULL = -9000000000000000005L;
    static final long OPEN = -9000000000000000006L;
    static final long STALE = -9000000000000000007L;

    private static int wrong;
    private static String about = "";

    private Due() {
    }

    /** What the checks that follow are about; it stands ahead of all that they tell. */
    static void about(String words) {
        about = words;
    }

    static void is(String what, long got, long want) {
        if (got != want) {
            wrong++;
            System.out.println(about + what + " answered " + got + ", due is " + want);
        }
    }

    /** A fraction: what two acts answered. */
    static void is(String what, long above, long below, long wantAbove, long wantBelow) {
        is(what + " above", above, wantAbove);
        is(what + " below", below, wantBelow);
    }

    static void holds(String what, boolean truth) {
        if (!truth) {
            wrong++;
            System.out.println(about + what + " does not hold");
        }
    }

    /** An act takes from .. to, both ends with it, and answers BEYOND one outside them and at the ends of all ints. */
    static void takesJust(String what, int from, int to, IntToLongFunction act) {
        for (int v : new int[] {Integer.MIN_VALUE, from - 1, to + 1, Integer.MAX_VALUE}) {
            is(what + " " + v, act.applyAsLong(v), BEYOND);
        }
        for (int v : new int[] {from, to}) {
            holds(what + " " + v + " is taken", act.applyAsLong(v) > LOW);
        }
    }

    static boolean anyWrong() {
        return wrong != 0;
    }

    static void end() {
        if (wrong != 0) {
            System.exit(1);
        }
    }
}
