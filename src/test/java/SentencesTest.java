import java.io.IOException;
import java.lang.reflect.Method;
import java.nio.file.Files;
import java.nio.file.Path;
import java.util.Set;
import java.util.TreeSet;
import java.util.regex.Matcher;
import java.util.regex.Pattern;

/** SENTENCES.md names tests that are there, and it names each test of an edge. */
public final class SentencesTest {
    private static final Path LIST = Path.of("src/test/SENTENCES.md");
    private static final Class<?>[] TESTS = {EdgesOfArgumentsTest.class, EdgesOfFindingsTest.class,
        EdgesOfHistoryTest.class, EdgesOfLinesTest.class, EdgesOfSharesTest.class, EdgesOfTextsTest.class,
        FirstQuestionTest.class, OrderOfErrorsTest.class, RefusedCallsTest.class};

    public static void main(String[] args) throws IOException {
        Checks checks = new Checks();
        Set<String> there = new TreeSet<>();
        for (Class<?> test : TESTS) {
            for (Method method : test.getDeclaredMethods()) {
                there.add(test.getName() + "." + method.getName());
            }
        }
        Set<String> listed = new TreeSet<>();
        Matcher matcher = Pattern.compile("`(\\w+Test\\.\\w+)`").matcher(Files.readString(LIST));
        while (matcher.find()) {
            listed.add(matcher.group(1));
            checks.due(matcher.group(1) + " is there", there.contains(matcher.group(1)) ? 1 : 0, 1);
        }
        for (Class<?> test : TESTS) {
            for (String name : calledFirst(test)) {
                checks.due(name + " is listed", listed.contains(name) ? 1 : 0, 1);
            }
        }
        checks.end();
    }

    /** The methods without arguments that a test's main calls, but for the last one, checks.end(). */
    private static Set<String> calledFirst(Class<?> test) throws IOException {
        String source = Files.readString(Path.of("src/test/java/" + test.getName() + ".java"));
        String main = source.substring(source.indexOf("void main("));
        main = main.substring(0, main.indexOf("\n    }"));
        Set<String> called = new TreeSet<>();
        Matcher matcher = Pattern.compile("\n        (\\w+)\\(\\);").matcher(main);
        while (matcher.find()) {
            called.add(test.getName() + "." + matcher.group(1));
        }
        return called;
    }
}
