import java.io.IOException;
import java.lang.reflect.Field;
import java.lang.reflect.Method;
import java.lang.reflect.Modifier;
import java.nio.file.Files;
import java.nio.file.Path;
import java.util.ArrayList;
import java.util.Arrays;
import java.util.List;
import java.util.Map;
import java.util.TreeMap;
import java.util.TreeSet;
import java.util.regex.Matcher;
import java.util.regex.Pattern;

/** The document's face, and those rules of LANGUAGE.md that can be seen without reading closely. */
public final class RulesTest {
    private static final Path SOURCE = Path.of("src/main/java/ShareStreams.java");
    private static final Path DOCUMENT = Path.of("../shared/DOC.md");
    /** Four blanks a level, so that the name of a method stands ahead of the first bracket. */
    private static final Pattern HEAD = Pattern.compile("    (    )?(public|private) [^=;(]*\\b(\\w+)\\((.*)\\) \\{");
    private static final String[] FACE = {"source(int,int)", "gate(int,int,int)", "choose(int,int,int)", "turn(int)",
        "delay(int,int)", "reseed(int,int,int)", "removeLast()", "setLength(int)", "readCircuit()", "type(char)",
        "clearText()", "undo()", "keep()", "restore()", "line(int,int)", "bit(int,int)", "overlap(int,int)",
        "errorAt(int,int)", "settles(int,int)", "bestSeed(int,int,int)", "unlike(int)", "count(int)"};
    private static final String[] RULED_OUT = {"\\bthrow\\b", "\\btry\\b", "\\bcatch\\b", "\\bsynchronized\\b",
        "\\bassert\\b", "\\bimport\\b", "\\bpackage\\b", "->", "::", "static \\{", "\\bdouble\\b", "\\bfloat\\b"};

    private static final Checks checks = new Checks();

    public static void main(String[] args) throws IOException {
        face();
        nestedClasses();
        String source = Files.readString(SOURCE);
        wordsRuledOut(source);
        objectsOnlyOnce(source);
        longMethods(source);
        parts(source, Files.readString(DOCUMENT));
        deepCalls(source);
        checks.end();
    }

    private static void face() {
        Class<?> type = ShareStreams.class;
        checks.due("not within a package", type.getPackageName().length(), 0);
        checks.due("public and final", type.getModifiers(), Modifier.PUBLIC | Modifier.FINAL);
        checks.due("one constructor", type.getDeclaredConstructors().length, 1);
        checks.due("a public constructor", type.getConstructors()[0].getParameterCount(), 0);
        TreeSet<String> methods = new TreeSet<>();
        List<String> names = new ArrayList<>();
        for (Method method : type.getDeclaredMethods()) {
            if (Modifier.isPrivate(method.getModifiers()) || method.isSynthetic()) {
                names.add(method.getName());
                continue;
            }
            checks.due(method + " is public", method.getModifiers(), Modifier.PUBLIC);
            checks.due(method + " answers an int", method.getReturnType() == int.class ? 1 : 0, 1);
            String arguments = Arrays.toString(method.getParameterTypes()).replaceAll("[\\[\\] ]", "");
            methods.add(method.getName() + "(" + arguments + ")");
        }
        checks.same("face", methods.toString(), new TreeSet<>(Arrays.asList(FACE)).toString());
        privateNames(names);
        TreeSet<String> constants = new TreeSet<>();
        for (Field field : type.getDeclaredFields()) {
            if (!Modifier.isPrivate(field.getModifiers())) {
                constants.add(field.getName());
                checks.due(field + " is an int", field.getType() == int.class ? 1 : 0, 1);
                checks.due(field + " is a public constant", field.getModifiers(),
                    Modifier.PUBLIC | Modifier.STATIC | Modifier.FINAL);
            }
            checks.due(field + " is no changing static", isChangingStatic(field) ? 1 : 0, 0);
        }
        checks.same("constants", constants.toString(), "[BAD_VALUE, FULL, NONE, NOT_POSSIBLE, UNKNOWN]");
    }

    private static void privateNames(List<String> names) {
        for (String name : names) {
            for (String shown : FACE) {
                checks.due(name + " is no public name", shown.startsWith(name + "(") ? 1 : 0, 0);
            }
        }
    }

    private static void nestedClasses() {
        Class<?>[] nested = ShareStreams.class.getDeclaredClasses();
        checks.due("at most eleven classes inside", nested.length <= 11 ? 1 : 0, 1);
        for (Class<?> type : nested) {
            checks.due(type + " is static", Modifier.isStatic(type.getModifiers()) ? 1 : 0, 1);
            checks.due(type + " is not public", Modifier.isPublic(type.getModifiers()) ? 1 : 0, 0);
            checks.due(type + " is not protected", Modifier.isProtected(type.getModifiers()) ? 1 : 0, 0);
            checks.due(type + " has few fields", type.getDeclaredFields().length <= 20 ? 1 : 0, 1);
            for (Field field : type.getDeclaredFields()) {
                checks.due(field + " is no changing static", isChangingStatic(field) ? 1 : 0, 0);
            }
            List<String> names = new ArrayList<>();
            for (Method method : type.getDeclaredMethods()) {
                names.add(method.getName());
            }
            privateNames(names);
        }
    }

    private static boolean isChangingStatic(Field field) {
        return Modifier.isStatic(field.getModifiers()) && !Modifier.isFinal(field.getModifiers());
    }

    private static void wordsRuledOut(String source) {
        String code = source.replaceAll("(?s)/\\*.*?\\*/", "").replaceAll("//[^\n]*", "");
        for (String word : RULED_OUT) {
            checks.due("uses of " + word, Pattern.compile(word).matcher(code).results().count(), 0);
        }
    }

    /** The room of a run is small: only constructors make objects, so that no call does. */
    private static void objectsOnlyOnce(String source) {
        for (String line : source.split("\n")) {
            boolean makes = Pattern.compile("\\bnew ").matcher(line).find();
            boolean inField = line.matches("    (    )?private final .* = new .*;");
            boolean inHistory = line.trim().equals("states[index] = new Bench();");
            checks.due("an object is made in a call: " + line, makes && !inField && !inHistory ? 1 : 0, 0);
        }
    }

    private static void longMethods(String source) {
        for (List<String> method : methodsOf(source)) {
            checks.due("lines of " + method.get(0).trim(), method.size() <= 60 ? 1 : 0, 1);
        }
    }

    /** The lines of each method, its head the first one; it ends at the first brace as deep as its head. */
    private static List<List<String>> methodsOf(String source) {
        List<List<String>> methods = new ArrayList<>();
        String[] lines = source.split("\n");
        for (int head = 0; head < lines.length; head++) {
            if (!HEAD.matcher(lines[head]).matches()) {
                continue;
            }
            String end = lines[head].replaceAll("\\S.*", "") + "}";
            int last = head;
            while (last < lines.length - 1 && !lines[last].equals(end)) {
                last++;
            }
            methods.add(Arrays.asList(lines).subList(head, last + 1));
        }
        return methods;
    }

    /** "Ahead of the calls .. the interface says: ---- .." */
    private static void parts(String source, String document) {
        Matcher matcher = Pattern.compile("Ahead of the calls (.*) the interface says: (---- .*)\\.").matcher(document);
        int found = 0;
        while (matcher.find()) {
            int start = source.indexOf("    // " + matcher.group(2) + "\n");
            checks.due("there is a part " + matcher.group(2), start < 0 ? 0 : 1, 1);
            String part = start < 0 ? "" : source.substring(start).split("// ----")[1];
            for (String call : matcher.group(1).split(", ")) {
                String head = "    public int " + call.replace("`", "") + "(";
                checks.due(call + " stands in the part " + matcher.group(2), part.contains(head) ? 1 : 0, 1);
            }
            found++;
        }
        checks.due("parts", found, 4);
    }

    /** Calls go at most eight deep, none calls itself, and each takes at most seven parameters. */
    private static void deepCalls(String source) {
        Map<String, String> bodies = new TreeMap<>();
        for (List<String> method : methodsOf(source)) {
            Matcher head = HEAD.matcher(method.get(0));
            checks.due("a head", head.matches() ? 1 : 0, 1);
            checks.due(head.group(3) + " is the name of one method", bodies.containsKey(head.group(3)) ? 1 : 0, 0);
            checks.due("parameters of " + head.group(3), head.group(4).split(",").length <= 7 ? 1 : 0, 1);
            bodies.put(head.group(3), String.join("\n", method.subList(1, method.size())));
        }
        for (String name : bodies.keySet()) {
            checks.due(name + " calls at most eight deep", depthOf(name, bodies, 1) <= 8 ? 1 : 0, 1);
        }
    }

    /** How many calls are open at once; more than eight if a method calls itself. */
    private static int depthOf(String name, Map<String, String> bodies, int open) {
        int depth = open;
        for (String called : bodies.keySet()) {
            if (open <= 8 && Pattern.compile("\\b" + called + "\\(").matcher(bodies.get(name)).find()) {
                depth = Math.max(depth, depthOf(called, bodies, open + 1));
            }
        }
        return depth;
    }
}
