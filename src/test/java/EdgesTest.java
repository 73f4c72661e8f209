import java.io.IOException;
import java.lang.reflect.InvocationTargetException;
import java.lang.reflect.Method;
import java.nio.file.Path;
import java.util.ArrayList;
import java.util.Comparator;
import java.util.List;

/** Runs the tests of the document's edges, and looks that no sentence of the document is left without one. */
public final class EdgesTest {
    private static final Class<?>[] TESTS = {EdgesOfTerms.class, EdgesOfPromises.class, EdgesOfRefusals.class};

    /** Headings, signatures, and the steps' own numbers. */
    private static final String NO_SENTENCE = "(0 (#.*|\\d\\.)|\\d+ (\\d+: \\w+|1:|A new object|`.*`:))";

    /** Sentences that tell no more than others do that a test names. */
    private static final String[] TOLD_ELSEWHERE = {"A camera card that promises frames:", "what later calls answer is free.",
        "It tells when frames are stored,", "Changes can be undone.", "The tick ends.", "IllegalStateException means what",
        "There is no such result.", "Ahead of the calls", "Returns a number.", "Returns a number of ",
        "Returns what a block holds.", "Returns a setting."};

    private EdgesTest() {
    }

    private static boolean needsNoTest(String sentence) {
        if (sentence.matches(NO_SENTENCE)) {
            return true;
        }
        for (String words : TOLD_ELSEWHERE) {
            if (sentence.substring(sentence.indexOf(' ') + 1).startsWith(words)) {
                return true;
            }
        }
        return false;
    }

    private static List<Method> tests() {
        List<Method> all = new ArrayList<>();
        for (Class<?> c : TESTS) {
            for (Method m : c.getDeclaredMethods()) {
                if (m.isAnnotationPresent(Says.class)) {
                    all.add(m);
                }
            }
        }
        all.sort(Comparator.comparing(Method::toString));
        return all;
    }

    private static void run(Method test, Document document) throws IllegalAccessException {
        Says says = test.getAnnotation(Says.class);
        for (String words : says.value()) {
            document.name(says.promise(), words);
        }
        int before = Checks.checked();
        try {
            test.invoke(null);
        } catch (InvocationTargetException e) {
            Checks.tell(false, test.getName() + " ended with " + e.getCause());
        }
        Checks.tell(Checks.checked() > before, test.getName() + " checks nothing");
    }

    public static void main(String[] args) throws IOException, IllegalAccessException {
        Document document = new Document(Path.of("../shared/DOC.md"));
        List<Method> tests = tests();
        for (Method test : tests) {
            run(test, document);
        }
        for (String sentence : document.unnamed()) {
            Checks.tell(needsNoTest(sentence), "no test names: " + sentence);
        }
        Checks.end("edges, " + tests.size() + " tests");
    }
}
