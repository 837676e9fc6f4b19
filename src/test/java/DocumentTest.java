import java.io.IOException;
import java.lang.reflect.Method;
import java.util.Arrays;
import java.util.HashSet;
import java.util.Set;

/** Every word of the promises and of the parts ahead of them is a test's; and each test's words stand in the document. */
public final class DocumentTest {
    private static final Class<?>[] TESTS = {WhatItIsTest.class, TermsTest.class, RefusalsTest.class, CausesReadingsTest.class,
        FoundTest.class, MendsPapersTest.class, TrialsTest.class, ToldTest.class};

    public static void main(String[] args) throws IOException {
        Document document = new Document();
        int tests = 0;
        for (int promise = Document.WHAT_IT_IS; promise <= Document.PROMISES; promise++) {
            tests += coverPromise(promise, document.wordsOf(promise));
        }
        int all = Arrays.stream(TESTS).mapToInt(one -> Sentences.testsOf(one).size()).sum();
        Due.is("tests of a promise that there is", tests, all);
        Due.end();
    }

    private static int coverPromise(int promise, String words) {
        char[] open = words.toCharArray();
        Set<String> names = new HashSet<>();
        for (Class<?> one : TESTS) {
            for (Method test : Sentences.testsOf(one)) {
                Sentence sentence = Sentences.sentenceOf(test);
                if (sentence.promise() == promise) {
                    names.add(test.toString());
                    Due.holds(test + ": its sentence stands in the document", words.contains(sentence.says()));
                    strike(open, words, sentence.says());
                }
            }
        }
        String rest = new String(open).replaceAll("[^A-Za-z0-9]+", " ").trim();
        Due.holds("promise " + promise + " is tested, but for: " + rest + ",", rest.isEmpty());
        return names.size();
    }

    private static void strike(char[] open, String words, String says) {
        for (int at = words.indexOf(says); at >= 0; at = words.indexOf(says, at + 1)) {
            Arrays.fill(open, at, at + says.length(), ' ');
        }
    }
}
