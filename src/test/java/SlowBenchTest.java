import java.lang.reflect.InvocationTargetException;
import java.lang.reflect.Method;
import java.lang.reflect.Modifier;
import java.util.ArrayList;
import java.util.Arrays;
import java.util.Comparator;
import java.util.List;
import java.util.Random;

/** Seeded runs of calls, each answer compared with that of SlowBench. How many runs: the first argument. */
public final class SlowBenchTest {
    private static final int RUNS = 150;
    private static final int CALLS = 512;
    private static final int[] WILD = {Integer.MIN_VALUE, Integer.MIN_VALUE + 1, -32769, -1001, -301, -201, -4, -1, 36, 37,
        201, 256, 301, 1001, 32768, 65536, Integer.MAX_VALUE};

    private final Random random;
    private final List<Method> methods;
    /* How wide a run's choices are: few causes and states make ties and loose ones, many make great numbers. */
    private final int stateStep;
    private final boolean extremes;
    private final int wildness;
    /* How many calls of the telling that goes on are still to come. */
    private int telling;

    private SlowBenchTest(long seed, List<Method> methods) {
        random = new Random(seed);
        this.methods = methods;
        stateStep = new int[] {1, 1, 3, 6, 12}[random.nextInt(5)];
        extremes = random.nextInt(3) == 0;
        wildness = new int[] {0, 30, 200}[random.nextInt(3)];
    }

    public static void main(String[] args) throws IllegalAccessException {
        List<Method> methods = new ArrayList<>();
        for (Method method : WatchBench.class.getDeclaredMethods()) {
            if (Modifier.isPublic(method.getModifiers())) {
                methods.add(method);
            }
        }
        methods.sort(Comparator.comparing(Method::getName));
        int runs = args.length > 0 ? Integer.parseInt(args[0]) : RUNS;
        for (int run = 0; run < runs && !Due.anyWrong(); run++) {
            new SlowBenchTest(run, methods).run(run);
        }
        Due.end();
    }

    private void run(int seed) throws IllegalAccessException {
        WatchBench bench = new WatchBench();
        SlowBench slow = new SlowBench();
        StringBuilder story = new StringBuilder();
        for (int call = 0; call < CALLS && !Due.anyWrong(); call++) {
            Method method = pick(call);
            int[] numbers = numbersFor(method);
            if (method.getName().equals("tell") && random.nextInt(20) != 0) {
                numbers[0] = slow.nextToTell();
            }
            boolean[] flags = {random.nextBoolean(), random.nextBoolean()};
            String words = method.getName() + Arrays.toString(numbers) + Arrays.toString(flags);
            long want = slow.act(method.getName(), numbers, flags);
            long got = call(bench, method, numbers, flags, words);
            story.append("  ").append(words).append(" -> ").append(got).append('\n');
            Due.is("seed " + seed + ", call " + call + ": " + words, got, want);
        }
        if (Due.anyWrong()) {
            System.out.print(story);
        }
    }

    private static long call(WatchBench bench, Method method, int[] numbers, boolean[] flags, String words)
        throws IllegalAccessException {
        Object[] all = new Object[method.getParameterCount()];
        int number = 0;
        int flag = 0;
        for (int i = 0; i < all.length; i++) {
            all[i] = method.getParameterTypes()[i] == int.class ? (Object) numbers[number++] : (Object) flags[flag++];
        }
        try {
            return (Long) method.invoke(bench, all);
        } catch (InvocationTargetException e) {
            Due.holds(words + " ends without " + e.getCause(), false);
            return Long.MAX_VALUE;
        }
    }

    private Method named(String name) {
        for (Method method : methods) {
            if (method.getName().equals(name)) {
                return method;
            }
        }
        throw new IllegalArgumentException(name);
    }

    private Method pick(int call) {
        String[] first = {"cause", "cause", "read", "read", "read", "mend", "span", "span", "find", "day"};
        String[] often = {"find", "find", "find", "few", "check", "tell", "tell", "size", "left", "doubt", "best"};
        int die = random.nextInt(10);
        if (telling > 0) {
            telling--;
            return named(telling == 0 ? "check" : "tell");
        }
        if (call < 40 && die < 8) {
            return named(first[random.nextInt(first.length)]);
        }
        if (die < 3) {
            return named(often[random.nextInt(often.length)]);
        }
        if (die == 3 && random.nextInt(3) == 0) {
            telling = 2 + 2 * upTo(3) + upTo(9) / 9;
        }
        if (die < 5) {
            // what makes stale or forgets is held back, so that what is found is looked at
            return named(random.nextInt(3) == 0 ? "read" : "find");
        }
        Method any = methods.get(random.nextInt(methods.size()));
        boolean unmaking = "cause read drop lay back anew check".contains(any.getName());
        return unmaking && random.nextInt(3) != 0 ? named("sum") : any;
    }

    private int upTo(int most) {
        return random.nextInt(most + 1);
    }

    private int about(int most) {
        if (extremes) {
            return random.nextBoolean() ? most - upTo(2) : -most + upTo(2);
        }
        return random.nextInt(4) == 0 ? upTo(4) - 2 : upTo(2 * most) - most;
    }

    private int state() {
        return upTo(35) / stateStep * stateStep;
    }

    private int[] numbersFor(Method method) {
        int[] tame = tameFor(method.getName());
        for (int i = 0; i < tame.length; i++) {
            if (wildness > 0 && random.nextInt(wildness) == 0) {
                tame[i] = random.nextBoolean() ? WILD[random.nextInt(WILD.length)] : upTo(20) - 10;
            }
        }
        return tame;
    }

    private int[] tameFor(String name) {
        switch (name) {
            case "cause": return causeNumbers();
            case "shows": return new int[] {upTo(8), state()};
            case "as": return new int[] {upTo(8), upTo(6)};
            case "read": return new int[] {state(), about(300)};
            case "drop": return new int[] {upTo(random.nextBoolean() ? 5 : 20)};
            case "reading": return new int[] {upTo(20), upTo(2)};
            case "sheet": return new int[] {upTo(2), random.nextBoolean() ? upTo(8) - 1 : upTo(37) - 1};
            case "put": return new int[] {upTo(2), upTo(8), random.nextInt(4) == 0 ? random.nextInt() : about(300)};
            case "lay": return new int[] {upTo(2), upTo(8)};
            case "find": return new int[] {random.nextBoolean() ? upTo(255) : 1 << upTo(7) | 1 << upTo(7) | 1 << upTo(7)};
            case "size", "doubt": return new int[] {upTo(7), 0};
            case "left": return new int[] {upTo(19)};
            case "foretold": return new int[] {upTo(35)};
            case "few": return new int[] {upTo(2) + 1};
            case "mend": return new int[] {upTo(7), about(random.nextBoolean() ? 200 : 20)};
            case "span": return new int[] {upTo(35), about(1000), about(1000)};
            case "behind": return new int[] {upTo(35), upTo(7), upTo(6) - 3, upTo(7), upTo(6) - 3};
            case "day": return new int[] {state(), about(1000)};
            case "mean", "change": return new int[] {upTo(6) - 1};
            case "tell": return new int[] {about(300)};
            case "count": return new int[] {upTo(5)};
            case "found": return new int[] {upTo(6) + 1};
            default: return new int[0];
        }
    }

    private int[] causeNumbers() {
        int kind = upTo(5);
        boolean turned = kind == 1 || kind == 5;
        if (extremes) {
            return new int[] {kind, turned ? upTo(3) : 4 * upTo(1) - 2, turned ? 3 : 4 * upTo(1) - 2};
        }
        return new int[] {kind, turned ? upTo(3) : upTo(4) - 2, turned ? upTo(2) + 1 : upTo(4) - 2};
    }
}
