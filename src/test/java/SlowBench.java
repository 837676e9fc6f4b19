import java.math.BigInteger;
import java.util.ArrayList;
import java.util.Arrays;
import java.util.Comparator;
import java.util.List;

/**
 * The document written a second time, with big fractions, lists and plain search, and on purpose by other ways than the
 * class: sizes by elimination, loose causes from the rows that foretell nothing, searches by sorting all there is.
 */
final class SlowBench {
    /** A refusal: the answer is LOW - k. */
    private static final class Refusal extends RuntimeException {
        private static final long serialVersionUID = 1;
        final int k;

        Refusal(int k) {
            super(null, null, false, false);
            this.k = k;
        }
    }

    record Fraction(BigInteger above, BigInteger below) implements Comparable<Fraction> {
        static final Fraction ZERO = of(0);

        static Fraction of(long v) {
            return new Fraction(BigInteger.valueOf(v), BigInteger.ONE);
        }

        static Fraction of(BigInteger above, BigInteger below) {
            BigInteger common = above.gcd(below);
            BigInteger by = below.signum() < 0 ? common.negate() : common;
            return new Fraction(above.divide(by), below.divide(by));
        }

        Fraction plus(Fraction o) {
            return of(above.multiply(o.below).add(o.above.multiply(below)), below.multiply(o.below));
        }

        Fraction times(Fraction o) {
            return of(above.multiply(o.above), below.multiply(o.below));
        }

        Fraction times(long v) {
            return times(of(v));
        }

        Fraction minus(Fraction o) {
            return plus(o.times(-1));
        }

        Fraction over(Fraction o) {
            return of(above.multiply(o.below), below.multiply(o.above));
        }

        Fraction bare() {
            return new Fraction(above.abs(), below);
        }

        boolean isZero() {
            return above.signum() == 0;
        }

        long tell(boolean tellBelow) {
            return (tellBelow ? below : above).longValueExact();
        }

        @Override
        public int compareTo(Fraction o) {
            return above.multiply(o.below).compareTo(o.above.multiply(below));
        }
    }

    record Cause(int kind, int a, int b) {
        int shows(int state) {
            int p = state / 6;
            boolean wound = state / 3 % 2 == 0;
            int w = state % 3;
            int[] wheel = {0, 0, 0, 0};
            if (kind == 1 || kind == 5) {
                Arrays.fill(wheel, kind == 5 ? 1 : 0);
                wheel[a] = b;
                wheel[(a + 2) % 4] = -b;
            }
            return switch (kind) {
                case 0 -> 1;
                case 1, 5 -> p < 2 ? 0 : wheel[p - 2];
                case 2 -> wound ? a : b;
                case 3 -> (wound ? a : b) + (w == 0 ? 1 : 0);
                default -> w == 0 ? -a : w == 1 ? b : a;
            };
        }
    }

    private List<Cause> causes = new ArrayList<>();
    private List<int[]> readings = new ArrayList<>();
    private List<int[]> mends = new ArrayList<>();
    private int[][] spans = new int[36][];
    private List<Cause> keptCauses;
    private List<int[]> keptReadings;
    private List<int[]> keptMends;
    private int[][] keptSpans;
    private final short[][] sheets = new short[3][];
    private final List<int[]> days = new ArrayList<>();
    private final List<Integer> told = new ArrayList<>();
    private int foundSet;
    private Fraction[] foundSizes;
    private boolean stale;
    private int looseSet;
    private final long[] tally = new long[8];

    private static void ask(boolean fine, int k) {
        if (!fine) {
            throw new Refusal(k);
        }
    }

    private static boolean in(int v, int from, int to) {
        return from <= v && v <= to;
    }

    /** An act by name; the same names and arguments as the class's. */
    long act(String name, int[] n, boolean[] b) {
        try {
            return switch (name) {
                case "cause" -> cause(n[0], n[1], n[2]);
                case "shows" -> {
                    ask(in(n[0], 0, causes.size() - 1) && in(n[1], 0, 35), 1);
                    yield causes.get(n[0]).shows(n[1]);
                }
                case "as" -> as(n[0], n[1]);
                case "read" -> {
                    ask(in(n[0], 0, 35) && in(n[1], -300, 300), 1);
                    ask(readings.size() < 20, 5);
                    stale = true;
                    readings.add(new int[] {n[0], n[1]});
                    yield readings.size() - 1;
                }
                case "drop" -> {
                    ask(in(n[0], 0, readings.size() - 1), 1);
                    stale = true;
                    readings.remove(n[0]);
                    yield readings.size();
                }
                case "reading" -> {
                    ask(in(n[0], 0, readings.size() - 1) && in(n[1], 0, 1), 1);
                    yield readings.get(n[0])[n[1]];
                }
                case "sheet", "put", "lay" -> sheets(name, n);
                case "find" -> find(n[0]);
                case "loose" -> looseSet;
                case "few" -> few(n[0]);
                case "mend" -> {
                    ask(in(n[0], 0, causes.size() - 1) && in(n[1], -200, 200), 1);
                    ask(mends.size() < 8, 5);
                    mends.add(new int[] {n[0], n[1]});
                    yield mends.size() - 1;
                }
                case "span" -> {
                    ask(in(n[0], 0, 35) && in(n[1], -1000, 1000) && in(n[2], -1000, 1000), 1);
                    spans[n[0]] = n[1] > n[2] ? null : new int[] {n[1], n[2]};
                    yield n[1] > n[2] ? 0 : 1;
                }
                case "day", "anew", "mean", "change" -> trial(name, n, b);
                case "tell" -> {
                    ask(told.size() < 16, 5);
                    told.add(n[0]);
                    yield told.size();
                }
                case "check" -> check();
                case "keep", "back" -> keeping(name);
                case "count" -> count(n[0]);
                case "found" -> {
                    ask(in(n[0], 1, 7), 1);
                    yield tally[n[0]];
                }
                default -> ofFound(name, n, b);
            };
        } catch (Refusal refusal) {
            tally[refusal.k]++;
            return -9000000000000000000L - refusal.k;
        }
    }

    private long cause(int kind, int a, int b) {
        boolean turned = (kind == 1 || kind == 5) && in(a, 0, 3) && in(b, 1, 3);
        boolean small = in(kind, 2, 4) && in(a, -2, 2) && in(b, -2, 2);
        ask(kind == 0 || turned || small, 1);
        ask(causes.size() < 8, 5);
        stale = true;
        causes.add(new Cause(kind, a, b));
        return causes.size() - 1;
    }

    private long as(int c, int kind) {
        ask(in(c, 0, causes.size() - 1) && in(kind, 0, 5), 1);
        Cause cause = causes.get(c);
        List<List<Integer>> over = List.of(List.of(0), List.of(1, 0), List.of(2, 0), List.of(3, 2, 0), List.of(4, 0),
            List.of(5, 1, 0));
        ask(over.get(cause.kind()).contains(kind), 3);
        return cause.kind() == 0 ? 0 : cause.a();
    }

    private long sheets(String name, int[] n) {
        ask(in(n[0], 0, 2), 1);
        if (name.equals("sheet")) {
            ask(n[1] >= -1, 4);
            ask(n[1] <= 36, 1);
            sheets[n[0]] = n[1] == -1 ? null : new short[n[1]];
            if (n[1] > 0) {
                Arrays.fill(sheets[n[0]], Short.MIN_VALUE);
            }
            return n[1];
        }
        short[] sheet = sheets[n[0]];
        ask(sheet != null, 2);
        if (name.equals("put")) {
            ask(in(n[1], 0, sheet.length - 1), 1);
            sheet[n[1]] = (short) n[2];
            return sheet[n[1]];
        }
        ask(n[1] >= 0, 4);
        ask(n[1] <= sheet.length, 1);
        List<int[]> laid = new ArrayList<>();
        for (int i = 0; i < n[1]; i++) {
            if (sheet[i] != Short.MIN_VALUE) {
                ask(in(sheet[i], -300, 300), 1);
                laid.add(new int[] {i, sheet[i]});
            }
        }
        ask(readings.size() + laid.size() <= 20, 5);
        stale = true;
        readings.addAll(laid);
        return readings.size();
    }

    private List<Integer> members(int set) {
        List<Integer> all = new ArrayList<>();
        for (int c = 0; c < 8; c++) {
            if ((set & 1 << c) != 0) {
                all.add(c);
            }
        }
        return all;
    }

    /** Rows brought to steps, each step's column clear elsewhere; answers the steps' columns. */
    private static List<Integer> clear(Fraction[][] rows, int columns) {
        List<Integer> steps = new ArrayList<>();
        for (int column = 0; column < columns; column++) {
            int at = steps.size();
            int from = at;
            while (from < rows.length && rows[from][column].isZero()) {
                from++;
            }
            if (from == rows.length) {
                continue;
            }
            Fraction[] row = rows[from];
            rows[from] = rows[at];
            rows[at] = row;
            Fraction head = row[column];
            for (int j = 0; j < row.length; j++) {
                row[j] = row[j].over(head);
            }
            for (int i = 0; i < rows.length; i++) {
                Fraction by = rows[i][column];
                if (i != at && !by.isZero()) {
                    for (int j = 0; j < row.length; j++) {
                        rows[i][j] = rows[i][j].minus(row[j].times(by));
                    }
                }
            }
            steps.add(column);
        }
        return steps;
    }

    /** The loose causes by these readings; 0 if the model is firm. */
    private int looseOf(int model, List<int[]> by) {
        List<Integer> in = members(model);
        Fraction[][] rows = new Fraction[by.size()][in.size()];
        for (int i = 0; i < by.size(); i++) {
            for (int j = 0; j < in.size(); j++) {
                rows[i][j] = Fraction.of(causes.get(in.get(j)).shows(by.get(i)[0]));
            }
        }
        List<Integer> steps = clear(rows, in.size());
        int loose = 0;
        for (int free = 0; free < in.size(); free++) {
            if (!steps.contains(free)) {
                loose |= 1 << in.get(free);
                for (int i = 0; i < steps.size(); i++) {
                    if (!rows[i][free].isZero()) {
                        loose |= 1 << in.get(steps.get(i));
                    }
                }
            }
        }
        return loose;
    }

    private Fraction[] sizesOf(int model, List<int[]> by) {
        List<Integer> in = members(model);
        int m = in.size();
        Fraction[][] rows = new Fraction[m][m + 1];
        for (int i = 0; i < m; i++) {
            for (int j = 0; j <= m; j++) {
                long total = 0;
                for (int[] reading : by) {
                    long other = j == m ? reading[1] : causes.get(in.get(j)).shows(reading[0]);
                    total += causes.get(in.get(i)).shows(reading[0]) * other;
                }
                rows[i][j] = Fraction.of(total);
            }
        }
        clear(rows, m);
        Fraction[] sizes = new Fraction[m];
        for (int i = 0; i < m; i++) {
            sizes[i] = rows[i][m];
        }
        return sizes;
    }

    private Fraction foretold(int model, Fraction[] sizes, int state) {
        List<Integer> in = members(model);
        Fraction total = Fraction.ZERO;
        for (int j = 0; j < in.size(); j++) {
            total = total.plus(sizes[j].times(causes.get(in.get(j)).shows(state)));
        }
        return total;
    }

    private Fraction leftOf(int model, Fraction[] sizes, int[] reading) {
        return Fraction.of(reading[1]).minus(foretold(model, sizes, reading[0]));
    }

    private Fraction sumOf(int model, Fraction[] sizes) {
        Fraction total = Fraction.ZERO;
        for (int[] reading : readings) {
            Fraction left = leftOf(model, sizes, reading);
            total = total.plus(left.times(left));
        }
        return total;
    }

    private void take(int model) {
        foundSet = model;
        foundSizes = sizesOf(model, readings);
        stale = false;
    }

    private long find(int model) {
        boolean there = model > 0 && model < 1 << causes.size();
        ask(there && in(Integer.bitCount(model), 1, 4), 1);
        int loose = looseOf(model, readings);
        if (loose != 0) {
            looseSet = loose;
        }
        ask(loose == 0, 6);
        take(model);
        return Integer.bitCount(model);
    }

    private long few(int k) {
        ask(in(k, 1, 3), 1);
        ask(!causes.isEmpty(), 2);
        record Choice(Fraction sum, int causes, int set) {
        }
        List<Choice> choices = new ArrayList<>();
        for (int set = 1; set < 1 << causes.size(); set++) {
            if (Integer.bitCount(set) <= k && looseOf(set, readings) == 0) {
                choices.add(new Choice(sumOf(set, sizesOf(set, readings)), Integer.bitCount(set), set));
            }
        }
        if (choices.isEmpty()) {
            looseSet = (1 << causes.size()) - 1;
        }
        ask(!choices.isEmpty(), 6);
        choices.sort(Comparator.comparing(Choice::sum).thenComparing(Choice::causes).thenComparing(Choice::set));
        take(choices.get(0).set());
        return foundSet;
    }

    private long ofFound(String name, int[] n, boolean[] b) {
        ask(foundSizes != null, 2);
        ask(!stale, 7);
        switch (name) {
            case "size":
                ask(members(foundSet).contains(n[0]), 1);
                return foundSizes[members(foundSet).indexOf(n[0])].tell(b[0]);
            case "left":
                ask(in(n[0], 0, readings.size() - 1), 1);
                return leftOf(foundSet, foundSizes, readings.get(n[0])).tell(b[0]);
            case "sum":
                return sumOf(foundSet, foundSizes).tell(b[0]);
            case "foretold":
                ask(in(n[0], 0, 35), 1);
                return foretold(foundSet, foundSizes, n[0]).tell(b[0]);
            case "model":
                return foundSet;
            case "doubt":
                ask(members(foundSet).contains(n[0]), 1);
                return doubt(members(foundSet).indexOf(n[0]), b[0]).tell(b[1]);
            case "spare":
                return others().size();
            case "behind":
                ask(in(n[0], 0, 35) && in(n[1], 0, mends.size() - 1) && in(n[3], 0, mends.size() - 1), 1);
                ask(in(n[2], -3, 3) && in(n[4], -3, 3), 1);
                return behind(n[0], n[1], n[2], n[3], n[4]).tell(b[0]);
            default:
                ask(Arrays.stream(spans).anyMatch(span -> span != null), 6);
                return ofPaper(name, b);
        }
    }

    private List<List<int[]>> others() {
        List<List<int[]>> all = new ArrayList<>();
        for (int i = 0; i < readings.size(); i++) {
            List<int[]> less = new ArrayList<>(readings);
            less.remove(i);
            if (looseOf(foundSet, less) == 0) {
                all.add(less);
            }
        }
        return all;
    }

    private Fraction doubt(int place, boolean most) {
        List<Fraction> sizes = new ArrayList<>();
        for (List<int[]> less : others()) {
            sizes.add(sizesOf(foundSet, less)[place]);
        }
        ask(!sizes.isEmpty(), 6);
        sizes.sort(null);
        return sizes.get(most ? sizes.size() - 1 : 0);
    }

    private Fraction behind(int state, int mend, int steps, int other, int more) {
        Fraction[] sizes = foundSizes.clone();
        int[][] done = {{mend, steps}, {other, more}};
        for (int[] one : done) {
            if (one[0] >= 0 && members(foundSet).contains(mends.get(one[0])[0])) {
                int place = members(foundSet).indexOf(mends.get(one[0])[0]);
                sizes[place] = sizes[place].plus(Fraction.of(mends.get(one[0])[1] * one[1]));
            }
        }
        return foretold(foundSet, sizes, state);
    }

    private Fraction worstBehind(int mend, int steps, int other, int more) {
        Fraction worst = Fraction.ZERO;
        for (int state = 0; state < 36; state++) {
            if (spans[state] != null) {
                Fraction here = behind(state, mend, steps, other, more).bare();
                worst = here.compareTo(worst) > 0 ? here : worst;
            }
        }
        return worst;
    }

    private long ofPaper(String name, boolean[] b) {
        if (name.equals("worst")) {
            return worstBehind(-1, 0, -1, 0).tell(b[0]);
        }
        if (name.equals("best")) {
            return best();
        }
        for (int state = 0; state < 36; state++) {
            if (spans[state] != null) {
                Fraction here = foretold(foundSet, foundSizes, state);
                boolean low = here.compareTo(Fraction.of(spans[state][0])) < 0;
                if (low || here.compareTo(Fraction.of(spans[state][1])) > 0) {
                    return state - 1000;
                }
            }
        }
        return 1;
    }

    private long best() {
        record Choice(Fraction worst, int mends, int m, int s, int n, int t) {
        }
        List<Choice> choices = new ArrayList<>();
        for (int m = -1; m < mends.size(); m++) {
            for (int s = -3; s <= 3; s++) {
                for (int n = -1; n < mends.size(); n++) {
                    for (int t = -3; t <= 3; t++) {
                        boolean fits = (m == -1) == (s == 0) && (n == -1) == (t == 0) && (n == -1 || m != -1 && m < n);
                        if (fits) {
                            int many = (m == -1 ? 0 : 1) + (n == -1 ? 0 : 1);
                            choices.add(new Choice(worstBehind(m, s, n, t), many, m, s, n, t));
                        }
                    }
                }
            }
        }
        Choice best = choices.stream().min(Comparator.comparing(Choice::worst).thenComparing(Choice::mends)
            .thenComparing(Choice::m).thenComparing(Choice::s).thenComparing(Choice::n).thenComparing(Choice::t)).get();
        return 10000 * (best.m + 1) + 1000 * (best.s + 3) + 10 * (best.n + 1) + best.t + 3;
    }

    private long trial(String name, int[] n, boolean[] b) {
        if (name.equals("day")) {
            ask(in(n[0], 0, 35) && in(n[1], -1000, 1000), 1);
            ask(days.size() < 60, 5);
            days.add(new int[] {n[0], n[1]});
            return days.size();
        }
        if (name.equals("anew")) {
            long were = days.size();
            days.clear();
            return were;
        }
        ask(in(n[0], -1, 5), 1);
        int[] gains = days.stream().filter(day -> n[0] == -1 || day[0] / 6 == n[0]).mapToInt(day -> day[1]).toArray();
        ask(gains.length >= (name.equals("mean") ? 1 : 2), 6);
        if (name.equals("mean")) {
            long total = Arrays.stream(gains).sum();
            return Fraction.of(BigInteger.valueOf(total), BigInteger.valueOf(gains.length)).tell(b[0]);
        }
        int most = 0;
        for (int i = 1; i < gains.length; i++) {
            most = Math.max(most, Math.abs(gains[i] - gains[i - 1]));
        }
        return most;
    }

    /** The number that a good teller would tell next (0 where there is none, or it is too great to tell). */
    int nextToTell() {
        if (foundSizes == null || told.size() >= 2 * foundSizes.length) {
            return 0;
        }
        Fraction size = foundSizes[told.size() / 2];
        BigInteger part = told.size() % 2 == 0 ? size.above() : size.below();
        return part.bitLength() < 31 ? part.intValue() : 0;
    }

    private long check() {
        List<Integer> numbers = new ArrayList<>(told);
        told.clear();
        ask(foundSizes != null, 2);
        ask(!stale, 7);
        for (int k = 0; k < foundSizes.length; k++) {
            if (numbers.size() < 2 * k + 2 || numbers.get(2 * k + 1) == 0) {
                return 1 + k;
            }
            BigInteger above = BigInteger.valueOf(numbers.get(2 * k));
            BigInteger below = BigInteger.valueOf(numbers.get(2 * k + 1));
            if (!Fraction.of(above, below).equals(foundSizes[k])) {
                return 1 + k;
            }
        }
        return numbers.size() > 2 * foundSizes.length ? 100 : 0;
    }

    private long keeping(String name) {
        if (name.equals("keep")) {
            keptCauses = new ArrayList<>(causes);
            keptReadings = new ArrayList<>(readings);
            keptMends = new ArrayList<>(mends);
            keptSpans = spans.clone();
            return 1;
        }
        ask(keptCauses != null, 2);
        causes = new ArrayList<>(keptCauses);
        readings = new ArrayList<>(keptReadings);
        mends = new ArrayList<>(keptMends);
        spans = keptSpans.clone();
        foundSizes = null;
        return 1;
    }

    private long count(int what) {
        ask(in(what, 0, 5), 1);
        long spanned = Arrays.stream(spans).filter(span -> span != null).count();
        return new long[] {causes.size(), readings.size(), mends.size(), spanned, days.size(), told.size()}[what];
    }
}
