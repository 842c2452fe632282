import java.io.IOException;
import java.lang.reflect.Method;
import java.nio.file.Files;
import java.nio.file.Path;
import java.util.ArrayList;
import java.util.List;
import java.util.Set;
import java.util.TreeSet;
import java.util.regex.Matcher;
import java.util.regex.Pattern;

/**
 * SENTENCES.md goes through the whole document in its own words and its own order, it names tests
 * that are there, and it names each test of the document.
 */
public final class SentencesTest {
    private static final Path LIST = Path.of("src/test/SENTENCES.md");
    private static final Path DOCUMENT = Path.of("../shared/DOC.md");
    /** The tests of the document, each of whose methods is to be listed. */
    private static final Class<?>[] TESTS = {CircuitTest.class, EdgesOfArgumentsTest.class, EdgesOfFindingsTest.class,
        EdgesOfHistoryTest.class, EdgesOfLinesTest.class, EdgesOfSharesTest.class, EdgesOfTextsTest.class,
        FirstQuestionTest.class, HistoryTest.class, LinesTest.class, OrderOfErrorsTest.class, RefusedCallsTest.class,
        ToldTest.class};
    private static final Class<?>[] OTHERS = {RulesTest.class};

    private static final Checks checks = new Checks();

    public static void main(String[] args) throws IOException {
        String list = Files.readString(LIST);
        testsAreThere(list);
        sentencesAreListed(list, Files.readString(DOCUMENT));
        checks.end();
    }

    private static void testsAreThere(String list) throws IOException {
        Set<String> there = new TreeSet<>();
        addMethods(there, TESTS);
        addMethods(there, OTHERS);
        Set<String> listed = new TreeSet<>();
        Matcher matcher = Pattern.compile("`(\\w+Test\\.\\w+)`").matcher(list);
        while (matcher.find()) {
            listed.add(matcher.group(1));
            checks.due(matcher.group(1) + " is there", there.contains(matcher.group(1)) ? 1 : 0, 1);
        }
        for (Class<?> test : TESTS) {
            for (String name : calledFirst(test)) {
                checks.due(name + " is listed", listed.contains(name) ? 1 : 0, 1);
            }
        }
    }

    private static void addMethods(Set<String> there, Class<?>[] tests) {
        for (Class<?> test : tests) {
            for (Method method : test.getDeclaredMethods()) {
                there.add(test.getName() + "." + method.getName());
            }
        }
    }

    /** The methods without arguments that a test's main calls. */
    private static Set<String> calledFirst(Class<?> test) throws IOException {
        String source = Files.readString(Path.of("src/test/java/" + test.getName() + ".java"));
        String main = source.substring(source.indexOf("void main("));
        main = main.substring(0, main.indexOf("\n    }"));
        Set<String> called = new TreeSet<>();
        Matcher matcher = Pattern.compile("\n        (\\w+)\\(\\);").matcher(main);
        while (matcher.find()) {
            called.add(test.getName() + "." + matcher.group(1));
        }
        return called;
    }

    /** The document is read from its first word to its last: what stands between two rows is no word. */
    private static void sentencesAreListed(String list, String document) {
        String words = withoutHeadings(document);
        int reached = 0;
        for (String sentence : sentencesOf(list)) {
            boolean isFirst = true;
            for (String quote : sentence.split(" \\.\\. ")) {
                int place = words.indexOf(quote, reached);
                checks.due("'" + quote + "' stands in the document, behind the one ahead of it", place < 0 ? 0 : 1, 1);
                if (place >= 0) {
                    isListed(isFirst ? words.substring(reached, place) : "");
                    reached = place + quote.length();
                }
                isFirst = false;
            }
        }
        isListed(words.substring(reached));
    }

    private static void isListed(String between) {
        boolean hasWords = Pattern.compile("\\w").matcher(between).find();
        checks.due("the list has no '" + between + "'", hasWords ? 1 : 0, 0);
    }

    private static String withoutHeadings(String document) {
        return document.replaceAll("(?m)^(#|```).*$", "").replaceAll("\\s+", " ");
    }

    /** The first column of each table, where ".." stands for words that are left out. */
    private static List<String> sentencesOf(String list) {
        List<String> sentences = new ArrayList<>();
        for (String line : list.split("\n")) {
            if (line.startsWith("| ") && !line.startsWith("| ---") && !line.startsWith("| sentence |")) {
                String[] columns = line.substring(2).split(" \\| ");
                checks.due("'" + line + "' has its tests", columns.length, 2);
                sentences.add(columns[0]);
            }
        }
        return sentences;
    }
}
