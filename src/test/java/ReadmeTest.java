import java.io.File;
import java.io.IOException;
import java.lang.reflect.Method;
import java.lang.reflect.Modifier;
import java.net.URL;
import java.net.URLClassLoader;
import java.nio.file.Files;
import java.nio.file.Path;
import java.util.ArrayList;
import java.util.List;
import java.util.regex.Matcher;
import java.util.regex.Pattern;
import javax.tools.ToolProvider;

/** Compiles and runs the examples of README.md, and holds each answer against the one that its comment tells. */
public final class ReadmeTest extends Checks {
    private static final Pattern BLOCK = Pattern.compile("```java\n(.*?)```", Pattern.DOTALL);

    /** A call at the begin of a line, and the answer that its comment begins with. */
    private static final Pattern CALL = Pattern.compile("(card\\.\\w+\\(.*\\)); +// (-?\\d+|throws \\w+)(:.*)?");

    private static final String HEAD = """
            import java.util.ArrayList;
            import java.util.List;

            public final class ReadmeExamples {
                interface Call {
                    int answer();
                }

                static String told(Call call) {
                    try {
                        return Integer.toString(call.answer());
                    } catch (RuntimeException e) {
                        return "throws " + e.getClass().getSimpleName();
                    }
                }

                public static List<String> answers() {
                    List<String> answers = new ArrayList<>();
            """;
    private static final String END = """
                    return answers;
                }
            }
            """;

    private final List<String> calls = new ArrayList<>();
    private final List<String> wanted = new ArrayList<>();
    private final StringBuilder source = new StringBuilder(HEAD);

    private void readExamples(String readme) {
        Matcher block = BLOCK.matcher(readme);
        while (block.find()) {
            source.append("{\n");
            for (String line : block.group(1).split("\n")) {
                readLine(line);
            }
            source.append("}\n");
        }
        source.append(END);
    }

    private void readLine(String line) {
        Matcher call = CALL.matcher(line);
        if (call.matches()) {
            calls.add(call.group(1));
            wanted.add(call.group(2));
            source.append("answers.add(told(() -> ").append(call.group(1)).append("));\n");
        } else {
            tell(!line.startsWith("card."), "no answer is told: " + line);
            source.append(line).append('\n');
        }
    }

    private void run(Path folder) throws IOException, ReflectiveOperationException {
        Path file = Files.writeString(folder.resolve("ReadmeExamples.java"), source);
        int compiled = ToolProvider.getSystemJavaCompiler().run(null, System.out, System.out,
                "-cp", System.getProperty("java.class.path"), "-d", folder.toString(), file.toString());
        tell(compiled == 0, "the examples do not compile");
        if (compiled != 0) {
            return;
        }
        List<?> answers;
        try (URLClassLoader loader = new URLClassLoader(new URL[] {folder.toUri().toURL()})) {
            answers = (List<?>) loader.loadClass("ReadmeExamples").getMethod("answers").invoke(null);
        }
        due(calls.size(), answers.size());
        for (int i = 0; i < calls.size() && i < answers.size(); i++) {
            tell(wanted.get(i).equals(answers.get(i)),
                    calls.get(i) + " answered " + answers.get(i) + ", README.md tells " + wanted.get(i));
        }
    }

    /** Each method of the face is to be found in README.md. */
    private static void namesTheFace(String readme) {
        for (Method m : FrameCard.class.getDeclaredMethods()) {
            boolean open = Modifier.isPublic(m.getModifiers());
            tell(!open || readme.contains("`" + m.getName() + "`"), "README.md does not name " + m.getName());
        }
    }

    public static void main(String[] args) throws IOException, ReflectiveOperationException {
        String readme = Files.readString(Path.of("README.md"));
        namesTheFace(readme);
        ReadmeTest test = new ReadmeTest();
        test.readExamples(readme);
        Path folder = Files.createTempDirectory("readme");
        try {
            test.run(folder);
        } finally {
            for (File left : folder.toFile().listFiles()) {
                left.delete();
            }
            folder.toFile().delete();
        }
        tell(!test.calls.isEmpty(), "README.md has no example");
        end("readme");
    }
}
