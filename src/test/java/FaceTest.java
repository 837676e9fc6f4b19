import java.io.IOException;
import java.lang.reflect.Constructor;
import java.lang.reflect.Field;
import java.lang.reflect.Method;
import java.lang.reflect.Modifier;
import java.nio.file.Files;
import java.nio.file.Path;
import java.util.ArrayList;
import java.util.Arrays;
import java.util.List;
import java.util.Set;
import java.util.TreeSet;
import java.util.regex.Matcher;
import java.util.regex.Pattern;

/** The document's part 'The public face', and what the interface says ahead of its calls: the class's face is just this. */
public final class FaceTest {
    public static void main(String[] args) throws IOException {
        Document document = new Document();
        String source = Files.readString(Path.of("src/main/java/WatchBench.java")).replaceAll("\\s+", " ");
        List<String> declared = declaredIn(document.face());
        Due.is("declarations that the document has", declared.size(), Document.PROMISES);
        standInTheSource(declared, source);
        areAllThatIsOpen(declared);
        constructor();
        promisesInTheFacesOrder(declared, document);
        headings(document, source);
        Due.end();
    }

    /** The face's declarations, such as "public long drop(int i)". */
    private static List<String> declaredIn(String face) {
        Due.holds("the class is named", face.startsWith("public final class WatchBench { "));
        List<String> declared = new ArrayList<>();
        Matcher matcher = Pattern.compile("(public [^;{}]*\\))").matcher(face);
        while (matcher.find()) {
            declared.add(matcher.group(1));
        }
        return declared;
    }

    private static void standInTheSource(List<String> declared, String source) {
        Due.holds("the class as told", source.contains("public final class WatchBench {"));
        for (String one : declared) {
            Due.holds(one + " stands in the class", source.contains(" " + one + " {"));
        }
    }

    /** Without the names of its parameters: "drop(int)". */
    private static String bare(String declaration) {
        return declaration.replaceAll("public (long )?", "").replaceAll("(int|boolean) \\w+", "$1").replace(" ", "");
    }

    private static void areAllThatIsOpen(List<String> declared) {
        Due.holds("public final", WatchBench.class.getModifiers() == (Modifier.PUBLIC | Modifier.FINAL));
        Set<String> due = new TreeSet<>();
        for (String one : declared) {
            due.add(bare(one));
        }
        due.remove("WatchBench()");
        Set<String> open = new TreeSet<>();
        for (Method method : WatchBench.class.getDeclaredMethods()) {
            if (!Modifier.isPrivate(method.getModifiers())) {
                String types = Arrays.toString(method.getParameterTypes()).replaceAll("[\\[\\] ]", "");
                open.add(method.getName() + "(" + types + ")");
                Due.holds(method + " is public and answers a long",
                    method.getModifiers() == Modifier.PUBLIC && method.getReturnType() == long.class);
            }
        }
        Due.holds("the acts are the document's " + due + ", not " + open, open.equals(due));
        for (Field field : WatchBench.class.getDeclaredFields()) {
            Due.holds(field + " is private", Modifier.isPrivate(field.getModifiers()));
        }
    }

    private static void constructor() {
        Constructor<?>[] constructors = WatchBench.class.getDeclaredConstructors();
        Due.is("constructors", constructors.length, 1);
        Due.holds("the constructor is public and takes nothing",
            constructors[0].getModifiers() == Modifier.PUBLIC && constructors[0].getParameterCount() == 0);
    }

    /** Promise 1 is of the constructor, each later one of the next act. */
    private static void promisesInTheFacesOrder(List<String> declared, Document document) {
        for (int promise = 1; promise <= Document.PROMISES; promise++) {
            String one = declared.get(promise - 1);
            Due.holds("promise " + promise + " is of " + one, ("public " + document.actOf(promise)).equals(one));
        }
    }

    /** "Ahead of the calls `cause`, .. the interface says: ---- causes, readings." So does the class. */
    private static void headings(Document document, String source) {
        Matcher matcher = Pattern.compile("Ahead of the calls ([^:]*) the interface says: (---- [^.]*)\\.")
            .matcher(document.headings());
        int headings = 0;
        while (matcher.find()) {
            int at = source.indexOf("/* " + matcher.group(2) + " ---- */");
            Due.holds("\"" + matcher.group(2) + "\" stands in the class", at >= 0);
            for (String name : matcher.group(1).replaceAll("[`,]", "").split(" ")) {
                int act = source.indexOf("public long " + name + "(");
                Due.holds(name + " is behind \"" + matcher.group(2) + "\"", act > at);
                Due.holds("no other heading is between it and " + name, source.lastIndexOf("/* ---- ", act) == at);
            }
            headings++;
        }
        Due.is("headings", headings, 5);
    }
}
