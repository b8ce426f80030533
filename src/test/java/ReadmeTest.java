import java.io.IOException;
import java.lang.reflect.Method;
import java.lang.reflect.Modifier;
import java.net.MalformedURLException;
import java.net.URL;
import java.net.URLClassLoader;
import java.nio.file.DirectoryStream;
import java.nio.file.Files;
import java.nio.file.Path;
import java.util.ArrayList;
import java.util.List;
import java.util.Map;
import java.util.TreeMap;
import java.util.regex.Matcher;
import java.util.regex.Pattern;
import javax.tools.ToolProvider;

/** README.md says what is true: its example is compiled and run, its calls and its tests are those that there are. */
public final class ReadmeTest {
    private static final Path README = Path.of("README.md");
    private static final Path TESTS = Path.of("src", "test", "java");
    /** A statement, with or without a variable for its answer, and a comment that begins with the answer. */
    private static final Pattern ANSWERED =
            Pattern.compile("(?:int (\\w+) = )?(stage\\..*);\\s+// (-?\\d+|true|false)(?:[:,].*)?");
    private static final Pattern LISTED = Pattern.compile("\\| `(\\w+)\\((.*)\\)` \\|.*");

    private static List<String> lines() {
        try {
            return Files.readAllLines(README);
        } catch (IOException e) {
            throw new IllegalStateException(e);
        }
    }

    private static List<String> example() {
        List<String> block = new ArrayList<>();
        boolean inside = false;
        for (String line : lines()) {
            boolean fence = line.startsWith("```");
            inside = fence ? line.equals("```java") : inside;
            if (inside && !fence && !line.isBlank()) {
                block.add(line);
            }
        }
        return block;
    }

    private static String program(List<String> example, int[] answered) {
        StringBuilder text = new StringBuilder("public final class Example { public static String run() {\n"
                + "StringBuilder wrong = new StringBuilder();\n");
        for (String line : example) {
            Matcher matcher = ANSWERED.matcher(line);
            if (!matcher.matches()) {
                text.append(line).append("\n");
                continue;
            }
            answered[0]++;
            String name = matcher.group(1) == null ? "answer" + answered[0] : matcher.group(1);
            text.append("var ").append(name).append(" = ").append(matcher.group(2)).append(";\n");
            text.append("if (").append(name).append(" != ").append(matcher.group(3)).append(") { wrong.append(\"")
                    .append(matcher.group(2)).append(" answers \").append(").append(name).append(").append(\"; \"); }\n");
        }
        return text.append("return wrong.toString();\n} }\n").toString();
    }

    private static void theExampleAnswersAsItSays() {
        int[] answered = new int[1];
        List<String> example = example();
        String program = program(example, answered);
        try {
            Path folder = Files.createTempDirectory("readme");
            Path source = Files.writeString(folder.resolve("Example.java"), program);
            String classes = System.getProperty("java.class.path");
            int failed = ToolProvider.getSystemJavaCompiler().run(null, null, null, "-cp", classes, "-d",
                    folder.toString(), source.toString());
            Tries.due(0, "what the compiler answers to the example", failed);
            Tries.due("", "what is wrong in the example", answersOf(folder));
            for (String made : new String[] {"Example.class", "Example.java"}) {
                Files.delete(folder.resolve(made));
            }
            Files.delete(folder);
        } catch (IOException | ReflectiveOperationException e) {
            throw new IllegalStateException(e);
        }
        Tries.due(true, answered[0] + " answers in the example: that they are many", answered[0] >= 30);
        Tries.due(2, "lines of the example without an answer", example.size() - answered[0]);
    }

    private static Object answersOf(Path folder) throws MalformedURLException, IOException, ReflectiveOperationException {
        try (URLClassLoader loader = new URLClassLoader(new URL[] {folder.toUri().toURL()})) {
            return loader.loadClass("Example").getMethod("run").invoke(null);
        }
    }

    private static void theCallsAreThoseOfTheFace() {
        Map<String, Integer> listed = new TreeMap<>();
        for (String line : lines()) {
            Matcher matcher = LISTED.matcher(line);
            if (matcher.matches()) {
                String parameters = matcher.group(2);
                listed.put(matcher.group(1), parameters.isEmpty() ? 0 : parameters.split(",").length);
            }
        }
        Map<String, Integer> face = new TreeMap<>();
        for (Method method : OperaMachines.class.getDeclaredMethods()) {
            if (Modifier.isPublic(method.getModifiers())) {
                face.put(method.getName(), method.getParameterCount());
            }
        }
        Tries.due(face, "the table of calls", listed);
    }

    private static void eachTestIsNamed() {
        List<String> named = new ArrayList<>();
        for (String line : lines()) {
            if (line.startsWith("- `src/test/java/")) {
                named.add(line.split("`")[1].replace("src/test/java/", ""));
            }
        }
        named.sort(null);
        List<String> there = new ArrayList<>();
        try (DirectoryStream<Path> tests = Files.newDirectoryStream(TESTS, "*.java")) {
            tests.forEach(test -> there.add(test.getFileName().toString()));
        } catch (IOException e) {
            throw new IllegalStateException(e);
        }
        there.sort(null);
        Tries.due(there, "the list of tests", named);
    }

    public static void main(String[] args) {
        Tries.test("README.md", ReadmeTest::theExampleAnswersAsItSays);
        Tries.test("README.md", ReadmeTest::theCallsAreThoseOfTheFace);
        Tries.test("README.md", ReadmeTest::eachTestIsNamed);
        Tries.end("ReadmeTest");
    }
}
