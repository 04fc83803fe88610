import java.io.IOException;
import java.net.URL;
import java.net.URLClassLoader;
import java.nio.charset.StandardCharsets;
import java.nio.file.Files;
import java.nio.file.Path;
import java.util.ArrayList;
import java.util.List;
import java.util.Set;
import java.util.TreeSet;
import java.util.regex.Matcher;
import java.util.regex.Pattern;
import java.util.stream.Stream;
import javax.tools.ToolProvider;

/** README.md agrees with the class and with its tests: the examples answer what stands behind them, and no test is left out. */
public final class ReadmeTest {
    private static final Check CHECK = new Check();
    private static final Path TESTS = Path.of("src/test/java");
    private static final Pattern EXAMPLE = Pattern.compile("(?s)```java\n(.*?)```");
    /** A call and what it answers. */
    private static final Pattern ANSWER = Pattern.compile("(x\\.\\w+\\(.*?\\)); +// (-?\\d+)(:.*)?");
    private static final Pattern ROW = Pattern.compile("(?m)^\\| (\\w+Test) \\|");

    public static void main(String[] args) throws IOException, ReflectiveOperationException {
        String readme = Files.readString(Path.of("README.md"), StandardCharsets.UTF_8);
        examples(readme);
        namesOfTests(readme);
        CHECK.end();
    }

    private static void examples(String readme) throws IOException, ReflectiveOperationException {
        Path folder = Files.createTempDirectory("readme");
        Path source = folder.resolve("Example.java");
        try {
            int many = 0;
            for (Matcher example = EXAMPLE.matcher(readme); example.find(); many++) {
                example(example.group(1), source, folder);
            }
            CHECK.holds("there are examples", many > 0);
        } finally {
            Files.deleteIfExists(folder.resolve("Example.class"));
            Files.deleteIfExists(source);
            Files.delete(folder);
        }
    }

    /** Compiles an example, so that it is tried just as it stands there, and compares what its calls answer. */
    private static void example(String example, Path source, Path folder)
            throws IOException, ReflectiveOperationException {
        List<String> calls = new ArrayList<>();
        List<Long> due = new ArrayList<>();
        StringBuilder code = new StringBuilder("public class Example { public static void run(java.util.List<Long> got) {\n");
        for (String line : example.split("\n")) {
            Matcher answer = ANSWER.matcher(line);
            if (answer.matches()) {
                calls.add(answer.group(1));
                due.add(Long.valueOf(answer.group(2)));
                code.append("got.add((long) ").append(answer.group(1)).append(");\n");
            } else {
                CHECK.holds("each comment of an example begins with an answer, not: " + line, !line.contains("//"));
                code.append(line).append('\n');
            }
        }
        Files.writeString(source, code.append("}}\n"));
        int result = ToolProvider.getSystemJavaCompiler().run(null, null, null, "-proc:none",
            "-cp", System.getProperty("java.class.path"), "-d", folder.toString(), source.toString());
        CHECK.due("the example compiles: " + calls, result, 0);
        List<Long> got = new ArrayList<>();
        try (URLClassLoader loader = new URLClassLoader(new URL[] {folder.toUri().toURL()})) {
            loader.loadClass("Example").getMethod("run", List.class).invoke(null, got);
        }
        for (int k = 0; k < due.size(); k++) {
            CHECK.due("README.md: " + calls.get(k), got.get(k), due.get(k));
        }
    }

    private static void namesOfTests(String readme) throws IOException {
        Set<String> named = new TreeSet<>();
        for (Matcher row = ROW.matcher(readme); row.find();) {
            named.add(row.group(1));
        }
        Set<String> there = new TreeSet<>();
        try (Stream<Path> files = Files.list(TESTS)) {
            files.map(file -> file.getFileName().toString()).filter(name -> name.endsWith("Test.java"))
                .forEach(name -> there.add(name.replace(".java", "")));
        }
        CHECK.holds("the tables of README.md name " + there + ", not " + named, named.equals(there));
    }
}
