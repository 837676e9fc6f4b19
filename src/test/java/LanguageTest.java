import java.io.IOException;
import java.lang.management.ManagementFactory;
import java.lang.reflect.Constructor;
import java.lang.reflect.Field;
import java.lang.reflect.Method;
import java.lang.reflect.Modifier;
import java.nio.file.Files;
import java.nio.file.Path;
import java.util.Arrays;
import java.util.Set;
import java.util.TreeSet;
import java.util.regex.Matcher;
import java.util.regex.Pattern;

/** The class's face, the words that LANGUAGE.md rules out, and what a run of calls makes. */
public final class LanguageTest {
    private static final String FACE = "anew() as(int,int) back() behind(int,int,int,int,int,boolean) best() "
        + "cause(int,int,int) change(int) check() count(int) day(int,int) doubt(int,boolean,boolean) drop(int) few(int) "
        + "find(int) foretold(int,boolean) found(int) keep() lay(int,int) left(int,boolean) loose() mean(int,boolean) "
        + "mend(int,int) model() paper() put(int,int,int) read(int,int) reading(int,int) sheet(int,int) shows(int,int) "
        + "size(int,boolean) span(int,int,int) spare() sum(boolean) tell(int) worst(boolean)";
    private static final String[] RULED_OUT = {"throw", "throws", "try", "catch", "synchronized", "assert", "protected",
        "package", "native", "transient", "volatile", "var", "Object", "Exact", "->", "::", "System\\.(?!arraycopy)",
        "Math\\.\\w*Exact", "new \\w+\\([^()]*\\) \\{", "import (?!java\\.util\\.Arrays;)", "double", "float"};

    public static void main(String[] args) throws IOException {
        face();
        words(Files.readString(Path.of("src/main/java/WatchBench.java")));
        room();
        Due.end();
    }

    private static void face() {
        Due.holds("public final", WatchBench.class.getModifiers() == (Modifier.PUBLIC | Modifier.FINAL));
        Set<String> open = new TreeSet<>();
        Set<String> closed = new TreeSet<>();
        for (Method method : WatchBench.class.getDeclaredMethods()) {
            String types = Arrays.toString(method.getParameterTypes()).replaceAll("[\\[\\] ]", "");
            if (Modifier.isPrivate(method.getModifiers())) {
                closed.add(method.getName());
            } else {
                open.add(method.getName() + "(" + types + ")");
                Due.holds(method + " is public and answers a long",
                    method.getModifiers() == Modifier.PUBLIC && method.getReturnType() == long.class);
            }
        }
        Due.holds("the face is the document's, not " + open, open.equals(new TreeSet<>(Set.of(FACE.split(" ")))));
        for (String name : open) {
            Due.holds("no private " + name, !closed.contains(name.substring(0, name.indexOf('('))));
        }
        for (Field field : WatchBench.class.getDeclaredFields()) {
            Due.holds(field + " is private", Modifier.isPrivate(field.getModifiers()));
        }
        Constructor<?>[] constructors = WatchBench.class.getDeclaredConstructors();
        Due.is("constructors", constructors.length, 1);
        Due.holds("the constructor is public and takes nothing",
            constructors[0].getModifiers() == Modifier.PUBLIC && constructors[0].getParameterCount() == 0);
        Class<?>[] inside = WatchBench.class.getDeclaredClasses();
        Due.holds("at most twelve classes", inside.length + 1 <= 12);
        for (Class<?> one : inside) {
            Due.holds(one + " is static", Modifier.isStatic(one.getModifiers()));
        }
    }

    private static void words(String source) {
        String code = source.replaceAll("(?s)/\\*.*?\\*/", " ").replaceAll("//[^\n]*", " ");
        for (String word : RULED_OUT) {
            String edge = Character.isLetter(word.charAt(0)) && Character.isLetter(word.charAt(word.length() - 1))
                ? "\\b" + word + "\\b" : word;
            Matcher matcher = Pattern.compile(edge).matcher(code);
            Due.holds("no " + word, !matcher.find());
        }
        Matcher statics = Pattern.compile("\\bstatic (?!final |boolean \\w+\\(|int \\w+\\(|long \\w+\\()").matcher(code);
        Due.holds("static fields are final", !statics.find());
        Due.holds("no loop without a bound", !Pattern.compile("\\bwhile\\b|for \\(;;").matcher(code).find());
    }

    /** All rows are made with the object: the dearest calls make nothing more. */
    private static void room() {
        com.sun.management.ThreadMXBean threads =
            (com.sun.management.ThreadMXBean) ManagementFactory.getThreadMXBean();
        WatchBench x = new WatchBench();
        dearCalls(x);
        long before = threads.getCurrentThreadAllocatedBytes();
        for (int i = 0; i < 20; i++) {
            dearCalls(x);
        }
        long made = threads.getCurrentThreadAllocatedBytes() - before;
        Due.holds("calls make nothing (" + made + " bytes)", made < 20000);
    }

    private static void dearCalls(WatchBench x) {
        for (int i = 0; i < 20; i++) {
            x.cause(i % 6, 1, 1 + i % 2);
            x.read(7 * i % 36, 13 * i - 100);
            x.mend(i % 8, i * 7 - 50);
            x.span(i, -i, i);
            x.day(i, i);
            x.tell(i);
            x.sheet(i % 3, i);
            x.put(i % 3, i - 1, i);
            x.lay(i % 3, 1);
        }
        x.few(3);
        x.best();
        x.find(15);
        x.find(240);
        x.few(2);
        x.doubt(0, true, true);
        x.spare();
        x.paper();
        x.worst(false);
        x.mean(-1, false);
        x.change(-1);
        x.keep();
        x.check();
        x.back();
    }
}
