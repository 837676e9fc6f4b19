import java.io.IOException;
import java.lang.reflect.InvocationTargetException;
import java.lang.reflect.Method;
import java.nio.file.Files;
import java.nio.file.Path;
import java.util.regex.Matcher;
import java.util.regex.Pattern;

/** The calls of README.md answer what stands behind them there. */
public final class ReadmeTest {
    private static final Pattern CALL = Pattern.compile("(?m)^bench\\.(\\w+)\\((.*)\\); +// (-?\\d+)(: .*)?$");

    public static void main(String[] args) throws IOException, ReflectiveOperationException {
        String readme = Files.readString(Path.of("README.md"));
        WatchBench bench = new WatchBench();
        int calls = 0;
        Matcher matcher = CALL.matcher(readme);
        while (matcher.find()) {
            long got = call(bench, matcher.group(1), matcher.group(2));
            Due.is("README.md: " + matcher.group(1) + "(" + matcher.group(2) + ")", got, Long.parseLong(matcher.group(3)));
            calls++;
        }
        Due.is("calls in README.md", calls, readme.split("\nbench\\.", -1).length - 1);
        Due.holds("there are some", calls > 0);
        Due.end();
    }

    private static long call(WatchBench bench, String name, String arguments) throws IllegalAccessException,
        InvocationTargetException {
        String[] words = arguments.isEmpty() ? new String[0] : arguments.split(", ");
        Object[] all = new Object[words.length];
        for (int i = 0; i < words.length; i++) {
            boolean truth = words[i].equals("true") || words[i].equals("false");
            all[i] = truth ? (Object) Boolean.valueOf(words[i]) : (Object) Integer.valueOf(words[i]);
        }
        for (Method method : WatchBench.class.getMethods()) {
            if (method.getName().equals(name) && method.getParameterCount() == all.length) {
                return (Long) method.invoke(bench, all);
            }
        }
        Due.holds("there is an act " + name, false);
        return 0;
    }
}
