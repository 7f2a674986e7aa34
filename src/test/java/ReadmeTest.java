import java.lang.reflect.Method;
import java.lang.reflect.Modifier;
import java.net.URL;
import java.net.URLClassLoader;
import java.nio.file.Files;
import java.nio.file.Path;
import java.util.ArrayList;
import java.util.List;
import java.util.regex.Matcher;
import java.util.regex.Pattern;
import javax.tools.ToolProvider;

/**
 * README.md holds what it says: its example compiles as it stands there, each call in it answers what the
 * comment behind the call says, and every call of the class is named.
 */
public final class ReadmeTest {

    private static final Check CHECK = new Check();
    private static final String START_OF_EXAMPLE = "```java";
    private static final String END_OF_EXAMPLE = "```";
    /** A call with its answer behind it: "navy.call(..);  // answer" or "// answer: what it means". */
    private static final Pattern ANSWERED = Pattern.compile("\\s*(navy\\.\\w+\\(.*?\\));\\s+// ([^:]+).*");

    public static void main(String[] args) throws Exception {
        String readme = Files.readString(Path.of("README.md"));
        CHECK.sentence("README.md", "each call is named");
        eachCallIsNamed(readme);
        CHECK.sentence("README.md", "the example");
        exampleAnswersWhatItSays(linesOfTheExample(readme));
        CHECK.finish();
    }

    private static void eachCallIsNamed(String readme) {
        for (Method method : SpoonNavy.class.getDeclaredMethods()) {
            if (Modifier.isPublic(method.getModifiers())) {
                boolean isNamed = Pattern.compile("\\b" + method.getName() + "\\(").matcher(readme).find();
                CHECK.due(method.getName(), isNamed, true);
            }
        }
    }

    private static List<String> linesOfTheExample(String readme) {
        List<String> found = new ArrayList<>();
        boolean isInside = false;
        for (String line : readme.split("\n")) {
            if (line.equals(START_OF_EXAMPLE)) {
                isInside = true;
            } else if (line.equals(END_OF_EXAMPLE)) {
                isInside = false;
            } else if (isInside) {
                found.add(line);
            }
        }
        return found;
    }

    private static void exampleAnswersWhatItSays(List<String> lines) throws Exception {
        List<String> calls = new ArrayList<>();
        List<String> due = new ArrayList<>();
        StringBuilder body = new StringBuilder();
        for (String line : lines) {
            Matcher answered = ANSWERED.matcher(line);
            if (answered.matches()) {
                calls.add(answered.group(1));
                due.add(answered.group(2).trim());
                body.append("answers.add(answerOf(() -> ").append(answered.group(1)).append("));\n");
            } else {
                body.append(line).append('\n');
            }
        }
        CHECK.due("the example has a run", calls.contains("navy.run()"), true);
        List<?> answers = answersOf(body.toString());
        CHECK.due("number of answers", answers.size(), due.size());
        for (int i = 0; i < due.size() && i < answers.size(); i++) {
            CHECK.due("answer " + i + ", " + calls.get(i), answers.get(i).toString(), due.get(i));
        }
    }

    private static List<?> answersOf(String body) throws Exception {
        Path folder = Files.createTempDirectory("readme");
        Path source = folder.resolve("Example.java");
        Path compiled = folder.resolve("Example.class");
        String classPath = System.getProperty("java.class.path");
        try {
            Files.writeString(source, wrapped(body));
            int outcome = ToolProvider.getSystemJavaCompiler().run(null, null, null,
                    "-cp", classPath, "-d", folder.toString(), source.toString());
            CHECK.due("javac of the example", outcome, 0);
            if (outcome != 0) {
                return List.of();
            }
            try (URLClassLoader loader = new URLClassLoader(new URL[] {folder.toUri().toURL()})) {
                return (List<?>) loader.loadClass("Example").getMethod("answers").invoke(null);
            }
        } finally {
            Files.deleteIfExists(source);
            Files.deleteIfExists(compiled);
            Files.deleteIfExists(folder);
        }
    }

    private static String wrapped(String body) {
        return """
            import java.util.ArrayList;
            import java.util.List;
            import java.util.function.Supplier;
            public final class Example {
                private static Object answerOf(Supplier<Object> call) {
                    try {
                        return call.get();
                    } catch (RuntimeException thrown) {
                        return "throws " + thrown.getClass().getSimpleName();
                    }
                }
                public static List<Object> answers() {
                    List<Object> answers = new ArrayList<>();
            """ + body + "return answers;\n}\n}\n";
    }
}
