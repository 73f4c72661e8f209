import java.io.IOException;
import java.nio.file.Files;
import java.nio.file.Path;
import java.util.ArrayList;
import java.util.List;
import java.util.TreeMap;

/** The document, cut into its promises and their sentences, and which of them a test has named. */
final class Document {
    private static final int PROMISES = 26;

    private final TreeMap<Integer, String> parts = new TreeMap<>();
    private final TreeMap<Integer, List<String>> named = new TreeMap<>();

    Document(Path file) throws IOException {
        String whole = Files.readString(file).replaceAll("(?s)```java.*?```", "").replaceAll("```(text)?", "");
        String[] cut = whole.substring(0, whole.indexOf("## Not promised")).split("## Promise ");
        for (int promise = 0; promise < cut.length; promise++) {
            parts.put(promise, cut[promise]);
            named.put(promise, new ArrayList<>());
        }
        Checks.due(PROMISES + 1, cut.length);
    }

    private static String folded(String text) {
        return text.replaceAll("\\s+", " ").trim();
    }

    /** Notes that a test holds the program to these words, which the document must have. */
    void name(int promise, String words) {
        Checks.tell(folded(parts.getOrDefault(promise, "")).contains(words),
                "promise " + promise + " does not say: " + words);
        named.get(promise).add(words);
    }

    /** A part's sentences; a sentence may go on behind the fence of a block of text. */
    private List<String> sentences(int promise) {
        List<String> all = new ArrayList<>();
        String part = parts.get(promise).replaceAll("\n\n+ *(?=[a-z])", " ");
        for (String paragraph : part.split("\n\n+|\n(?=[-#1-4][. #])")) {
            String text = paragraph.replaceFirst("^[A-Z ]+\n", "");
            for (String sentence : folded(text).split("(?<=;) |(?<=[.:)]\\.?) (?=[A-Z(]|[1-9] [0p w])")) {
                all.add(sentence.replaceAll(";$", ""));
            }
        }
        return all;
    }

    private boolean isNamed(int promise, String sentence) {
        for (String words : named.get(promise)) {
            if (sentence.contains(words) || words.contains(sentence)) {
                return true;
            }
        }
        return false;
    }

    /** The sentences that no test names. */
    List<String> unnamed() {
        List<String> left = new ArrayList<>();
        for (int promise : parts.keySet()) {
            for (String sentence : sentences(promise)) {
                if (!isNamed(promise, sentence)) {
                    left.add(promise + " " + sentence);
                }
            }
        }
        return left;
    }
}
