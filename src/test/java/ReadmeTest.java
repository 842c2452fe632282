import java.io.ByteArrayOutputStream;
import java.io.IOException;
import java.io.PrintStream;
import java.net.URL;
import java.net.URLClassLoader;
import java.nio.file.Files;
import java.nio.file.Path;
import java.util.ArrayList;
import java.util.Comparator;
import java.util.List;
import java.util.regex.Matcher;
import java.util.regex.Pattern;
import java.util.stream.Stream;
import javax.tools.JavaCompiler;
import javax.tools.ToolProvider;

/** README.md: its example compiles and prints what it says, its constants and its list of tests are right. */
public final class ReadmeTest {
    private static final Path README = Path.of("README.md");
    private static final Path TESTS = Path.of("src/test/java");

    private static final Checks checks = new Checks();

    public static void main(String[] args) throws Exception {
        String readme = Files.readString(README);
        String example = codeOf(readme);
        List<String> said = saidIn(example);
        checks.due("the example says what it prints", said.size() >= 10 ? 1 : 0, 1);
        checks.same("the example", String.join("\n", printedBy(example)), String.join("\n", said));
        // The document in its slowest form is to print the same, so that the example is right about it too.
        String slow = example.replace("ShareStreams", "SlowBench");
        checks.same("the example with SlowBench", String.join("\n", printedBy(slow)), String.join("\n", said));
        constants(readme);
        listOfTests(readme);
        checks.end();
    }

    private static String codeOf(String readme) {
        String behind = readme.substring(readme.indexOf("```java\n") + "```java\n".length());
        return behind.substring(0, behind.indexOf("```"));
    }

    /** The number that begins the comment behind each call that prints. */
    private static List<String> saidIn(String example) {
        List<String> said = new ArrayList<>();
        for (String line : example.split("\n")) {
            if (line.contains("System.out.println(")) {
                Matcher matcher = Pattern.compile(".*; +// (-?\\d+)\\b.*").matcher(line);
                said.add(matcher.matches() ? matcher.group(1) : "nothing is said of: " + line);
            }
        }
        return said;
    }

    private static List<String> printedBy(String example) throws Exception {
        Path build = Files.createTempDirectory("readme");
        try {
            Path source = build.resolve("Example.java");
            Files.writeString(source, example);
            JavaCompiler compiler = ToolProvider.getSystemJavaCompiler();
            int failed = compiler.run(null, null, null, "-Xlint:all", "-Werror", "-d", build.toString(),
                source.toString(), "src/main/java/ShareStreams.java", "src/test/java/SlowBench.java");
            checks.due("the example compiles", failed, 0);
            return failed == 0 ? run(build) : List.of();
        } finally {
            remove(build);
        }
    }

    private static List<String> run(Path build) throws Exception {
        PrintStream console = System.out;
        ByteArrayOutputStream printed = new ByteArrayOutputStream();
        URL[] urls = {build.toUri().toURL()};
        try (URLClassLoader loader = new URLClassLoader(urls, ClassLoader.getPlatformClassLoader())) {
            System.setOut(new PrintStream(printed, true));
            loader.loadClass("Example").getMethod("main", String[].class).invoke(null, (Object) new String[0]);
        } finally {
            System.setOut(console);
        }
        return printed.toString().lines().toList();
    }

    private static void remove(Path build) throws IOException {
        try (Stream<Path> files = Files.walk(build)) {
            for (Path file : files.sorted(Comparator.reverseOrder()).toList()) {
                Files.delete(file);
            }
        }
    }

    private static void constants(String readme) throws ReflectiveOperationException {
        Matcher matcher = Pattern.compile("\\| `([A-Z_]+)` \\| (-\\d+) \\|").matcher(readme);
        int found = 0;
        while (matcher.find()) {
            int due = ShareStreams.class.getField(matcher.group(1)).getInt(null);
            checks.due("README: " + matcher.group(1), Integer.parseInt(matcher.group(2)), due);
            found++;
        }
        checks.due("README: constants", found, ShareStreams.class.getFields().length);
    }

    private static void listOfTests(String readme) throws IOException {
        try (Stream<Path> files = Files.list(TESTS)) {
            for (Path file : files.toList()) {
                String name = file.getFileName().toString().replace(".java", "");
                boolean isListed = !name.endsWith("Test") || readme.contains("| `" + name + "` |");
                checks.due("README lists " + name, isListed ? 1 : 0, 1);
            }
        }
        Matcher matcher = Pattern.compile("\n\\| `(\\w+Test)` \\|").matcher(readme);
        while (matcher.find()) {
            boolean isThere = Files.exists(TESTS.resolve(matcher.group(1) + ".java"));
            checks.due(matcher.group(1) + " is there", isThere ? 1 : 0, 1);
        }
    }
}
