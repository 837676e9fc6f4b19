import java.io.IOException;
import java.lang.management.ManagementFactory;
import java.lang.reflect.Field;
import java.lang.reflect.InvocationTargetException;
import java.lang.reflect.Method;
import java.lang.reflect.Modifier;
import java.nio.file.Files;
import java.nio.file.Path;
import java.util.ArrayList;
import java.util.List;
import java.util.Set;
import java.util.TreeSet;
import java.util.regex.Matcher;
import java.util.regex.Pattern;

/** The rules of LANGUAGE.md that a test can look at, by their numbers (the face, too, is looked at by FaceTest). */
public final class LanguageTest {
    private static final String[] RULED_OUT = {"throw", "throws", "try", "catch", "synchronized", "assert", "protected",
        "package", "native", "transient", "volatile", "var", "Object", "->", "::", "new \\w+\\([^()]*\\) \\{", "double",
        "float", "equals", "hashCode", "toString"};
    private static final Set<String> LIBRARY = Set.of("java.util", "util.Arrays", "Math.max", "Math.min", "Math.abs",
        "Math.floorDiv", "Long.compare", "Long.MAX_VALUE", "Integer.bitCount", "Arrays.fill", "System.arraycopy");
    private static final int[] NUMBERS = {Integer.MIN_VALUE, -1, 0, 3, 8, 36, Integer.MAX_VALUE};

    public static void main(String[] args) throws IOException, IllegalAccessException {
        String source = Files.readString(Path.of("src/main/java/WatchBench.java"));
        String code = source.replaceAll("(?s)/\\*.*?\\*/", " ").replaceAll("//[^\n]*", " ");
        namesOfActs();
        classesInside();
        library(code);
        statics(code);
        wordsRuledOut(code);
        callsEnd();
        loops(code);
        sizes(code);
        room();
        Due.end();
    }

    private static List<Class<?>> allClasses() {
        List<Class<?>> all = new ArrayList<>(List.of(WatchBench.class.getDeclaredClasses()));
        all.add(WatchBench.class);
        return all;
    }

    private static List<Method> acts() {
        List<Method> acts = new ArrayList<>();
        for (Method method : WatchBench.class.getDeclaredMethods()) {
            if (Modifier.isPublic(method.getModifiers())) {
                acts.add(method);
            }
        }
        return acts;
    }

    /** Rule 1. */
    private static void namesOfActs() {
        Set<String> names = new TreeSet<>();
        for (Method act : acts()) {
            names.add(act.getName());
        }
        for (Class<?> one : allClasses()) {
            for (Method method : one.getDeclaredMethods()) {
                boolean closed = Modifier.isPrivate(method.getModifiers());
                Due.holds("rule 1: " + method + " has a name of its own", !closed || !names.contains(method.getName()));
            }
        }
    }

    /** Rule 2. */
    private static void classesInside() {
        for (Class<?> one : WatchBench.class.getDeclaredClasses()) {
            Due.holds("rule 2: " + one + " is static", Modifier.isStatic(one.getModifiers()));
            Due.is("rule 2: classes inside " + one, one.getDeclaredClasses().length, 0);
        }
    }

    /** Rule 4: of what the rule lists the class uses but this. */
    private static void library(String code) {
        Matcher matcher = Pattern.compile("\\b(java|util|Math|Long|Integer|Arrays|System|String|List)\\.(\\w+)").matcher(code);
        while (matcher.find()) {
            Due.holds("rule 4: " + matcher.group() + " is listed", LIBRARY.contains(matcher.group()));
        }
        Matcher imports = Pattern.compile("import (?!java\\.util\\.Arrays;)").matcher(code);
        Due.holds("rule 4: nothing but Arrays is imported", !imports.find());
    }

    /** Rule 5. */
    private static void statics(String code) {
        for (Class<?> one : allClasses()) {
            for (Field field : one.getDeclaredFields()) {
                int modifiers = field.getModifiers();
                Due.holds("rule 5: " + field + " is final", !Modifier.isStatic(modifiers) || Modifier.isFinal(modifiers));
            }
        }
        Due.holds("rule 5: no static block", !Pattern.compile("\\bstatic\\s*\\{").matcher(code).find());
    }

    /** Rules 2, 3 and 6. */
    private static void wordsRuledOut(String code) {
        for (String word : RULED_OUT) {
            String edge = Character.isLetter(word.charAt(0)) && Character.isLetter(word.charAt(word.length() - 1))
                ? "\\b" + word + "\\b" : word;
            Due.holds("rule 6: no " + word, !Pattern.compile(edge).matcher(code).find());
        }
    }

    /** Rule 7: no call throws, for any arguments, on a bench without anything and on one that has all. */
    private static void callsEnd() throws IllegalAccessException {
        for (Method act : acts()) {
            WatchBench fresh = new WatchBench();
            WatchBench full = new WatchBench();
            allCalls(full);
            full.find(1);
            int ways = 1;
            for (Class<?> type : act.getParameterTypes()) {
                ways *= type == int.class ? NUMBERS.length : 2;
            }
            for (int way = 0; way < ways; way++) {
                Object[] arguments = argumentsFor(act, way);
                ends(act, fresh, arguments);
                ends(act, full, arguments);
            }
        }
    }

    private static Object[] argumentsFor(Method act, int way) {
        Object[] arguments = new Object[act.getParameterCount()];
        int rest = way;
        for (int i = 0; i < arguments.length; i++) {
            boolean number = act.getParameterTypes()[i] == int.class;
            int many = number ? NUMBERS.length : 2;
            arguments[i] = number ? (Object) NUMBERS[rest % many] : (Object) (rest % many == 1);
            rest /= many;
        }
        return arguments;
    }

    private static void ends(Method act, WatchBench x, Object[] arguments) throws IllegalAccessException {
        try {
            act.invoke(x, arguments);
        } catch (InvocationTargetException e) {
            Due.holds("rule 7: " + act.getName() + List.of(arguments) + " ends without " + e.getCause(), false);
        }
    }

    /** Rule 9. */
    private static void loops(String code) {
        Due.holds("rule 9: no while", !Pattern.compile("\\bwhile\\b").matcher(code).find());
        Matcher matcher = Pattern.compile("\\bfor \\(([^;:)]*);([^;]*);").matcher(code);
        while (matcher.find()) {
            String counter = matcher.group(1).replaceAll("int (\\w+) = .*", "$1");
            Due.holds("rule 9: " + matcher.group() + " has a bound", matcher.group(2).matches(".*\\b" + counter + " <=? .*"));
        }
    }

    /** Rule 11. */
    private static void sizes(String code) {
        Due.holds("rule 11: at most twelve classes", allClasses().size() <= 12);
        for (Class<?> one : allClasses()) {
            int fields = 0;
            for (Field field : one.getDeclaredFields()) {
                fields += Modifier.isStatic(field.getModifiers()) ? 0 : 1;
            }
            Due.holds("rule 11: at most twenty fields in " + one, fields <= 20);
            for (Method method : one.getDeclaredMethods()) {
                Due.holds("rule 11: at most seven parameters of " + method, method.getParameterCount() <= 7);
            }
        }
        methodsStayShort(code.split("\n"));
    }

    /** What opens with parameters or a condition at a depth of 4 or 8 blanks closes within sixty lines. */
    private static void methodsStayShort(String[] lines) {
        for (String blanks : new String[] {"    ", "        "}) {
            int opened = -1;
            for (int i = 0; i < lines.length; i++) {
                if (lines[i].matches(blanks + "\\S.*\\) \\{")) {
                    opened = i;
                }
                if (opened >= 0 && lines[i].equals(blanks + "}")) {
                    Due.holds("rule 11: at most sixty lines of " + lines[opened], i - opened <= 60);
                    opened = -1;
                }
            }
        }
    }

    /** Rule 12: all rows are made with the object, and no call makes anything more. */
    private static void room() {
        com.sun.management.ThreadMXBean threads =
            (com.sun.management.ThreadMXBean) ManagementFactory.getThreadMXBean();
        WatchBench x = new WatchBench();
        allCalls(x);
        long least = Long.MAX_VALUE;
        // the machine may make something of its own meanwhile, but not each time
        for (int i = 0; i < 5; i++) {
            long before = threads.getCurrentThreadAllocatedBytes();
            allCalls(x);
            least = Math.min(least, threads.getCurrentThreadAllocatedBytes() - before);
        }
        Due.is("rule 12: bytes that calls make", least, 0);
    }

    private static void allCalls(WatchBench x) {
        x.anew();
        for (int i = 0; i < 20; i++) {
            x.cause(i % 6, 1, 1 + i % 2);
            x.read(7 * i % 36, 13 * i - 100);
            x.mend(i % 8, i * 7 - 50);
            x.span(i, -i, i);
            x.day(i, i);
            x.tell(i);
            x.sheet(i % 3, i);
            x.put(i % 3, i - 1, i);
            x.lay(i % 3, 1);
        }
        x.few(3);
        x.best();
        x.find(15);
        x.find(240);
        x.loose();
        x.few(2);
        x.doubt(0, true, true);
        x.spare();
        x.paper();
        x.worst(false);
        x.behind(0, 0, 1, 1, 1, false);
        x.size(0, false);
        x.left(0, false);
        x.sum(false);
        x.foretold(0, false);
        x.model();
        x.mean(-1, false);
        x.change(-1);
        x.shows(0, 0);
        x.as(3, 2);
        x.reading(0, 1);
        x.count(3);
        x.found(1);
        x.keep();
        x.check();
        x.drop(0);
        x.back();
    }
}
