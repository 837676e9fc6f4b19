import java.lang.reflect.InvocationTargetException;
import java.lang.reflect.Method;
import java.util.ArrayList;
import java.util.Comparator;
import java.util.List;

/** Runs the tests that bear a sentence of the document; what fails is told with its promise and its sentence. */
final class Sentences {
    private Sentences() {
    }

    static List<Method> testsOf(Class<?> tests) {
        List<Method> all = new ArrayList<>();
        for (Method method : tests.getDeclaredMethods()) {
            if (method.isAnnotationPresent(Sentence.class)) {
                all.add(method);
            }
        }
        all.sort(Comparator.comparingInt((Method method) -> sentenceOf(method).promise()).thenComparing(Method::getName));
        return all;
    }

    static Sentence sentenceOf(Method test) {
        return test.getAnnotation(Sentence.class);
    }

    static void run(Class<?> tests) throws IllegalAccessException {
        List<Method> all = testsOf(tests);
        Due.holds(tests.getName() + " has tests", !all.isEmpty());
        for (Method test : all) {
            Sentence sentence = sentenceOf(test);
            Due.about("promise " + sentence.promise() + ", \"" + sentence.says() + "\", " + test.getName() + ": ");
            try {
                test.invoke(null);
            } catch (InvocationTargetException e) {
                Due.holds("ends without " + e.getCause(), false);
            }
        }
        System.out.println(tests.getName() + ": " + all.size() + " tests of sentences");
        Due.end();
    }
}
