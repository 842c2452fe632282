import java.io.ByteArrayInputStream;
import java.io.DataInputStream;
import java.io.IOException;
import java.io.InputStream;
import java.lang.reflect.Field;
import java.lang.reflect.Method;
import java.util.ArrayList;
import java.util.Arrays;
import java.util.List;
import java.util.Set;
import java.util.TreeSet;

/** Those rules of LANGUAGE.md that show in what javac makes of the class: types, library, classes. */
public final class ClassFilesTest {
    private static final String OWN = "ShareStreams";
    /** Of rule 4 the part that the class uses; whoever needs more of the rule adds it here. */
    private static final Set<String> LIBRARY = new TreeSet<>(Arrays.asList("java/lang/Object.<init>",
        "java/lang/String.length", "java/lang/String.charAt", "java/lang/String.isEmpty", "java/lang/Math.abs",
        "java/lang/Math.max", "java/lang/Math.floorMod", "java/lang/Integer.bitCount", "java/lang/Long.bitCount"));
    private static final Set<String> TYPES = new TreeSet<>(Arrays.asList("int", "long", "short", "byte", "char",
        "boolean", "void", "int[]", "long[]", "short[]", "byte[]", "char[]", "boolean[]", "int[][]", "long[][]",
        "java.lang.String"));

    private static final Checks checks = new Checks();

    public static void main(String[] args) throws IOException {
        List<Class<?>> all = new ArrayList<>();
        all.add(ShareStreams.class);
        all.addAll(Arrays.asList(ShareStreams.class.getDeclaredClasses()));
        Set<String> names = new TreeSet<>();
        for (Class<?> type : all) {
            names.add(type.getName());
            typesOf(type);
        }
        for (Class<?> type : all) {
            poolOf(type, names);
        }
        checks.due("own classes", names.size(), all.size());
        checks.end();
    }

    /** Rule 3: numbers, boolean, char, String and own classes, and arrays of numbers of two dimensions. */
    private static void typesOf(Class<?> type) {
        for (Field field : type.getDeclaredFields()) {
            allowed(field.toString(), field.getType());
        }
        for (Method method : type.getDeclaredMethods()) {
            allowed(method.toString(), method.getReturnType());
            for (Class<?> parameter : method.getParameterTypes()) {
                allowed(method.toString(), parameter);
            }
        }
    }

    private static void allowed(String where, Class<?> type) {
        String name = type.getCanonicalName();
        boolean isOwn = name.startsWith(OWN) && !name.endsWith("[][]");
        checks.due(where + " has types of rule 3", isOwn || TYPES.contains(name) ? 1 : 0, 1);
    }

    /** The constant pool names every class and every method that the bytecode can reach. */
    private static void poolOf(Class<?> type, Set<String> names) throws IOException {
        Object[] pool = poolOf(type);
        for (Object entry : pool) {
            if (entry instanceof Reference) {
                Reference used = (Reference) entry;
                String owner = used.ownerIn(pool);
                if (!owner.startsWith(OWN)) {
                    String name = owner + "." + used.nameIn(pool);
                    checks.due(name + " is in the library of rule 4", LIBRARY.contains(name) ? 1 : 0, 1);
                }
            }
            if (entry instanceof ClassEntry) {
                String name = (String) pool[((ClassEntry) entry).name];
                boolean isNamed = !name.startsWith(OWN) || names.contains(name);
                checks.due(name + " has a name of its own (rule 2)", isNamed ? 1 : 0, 1);
            }
        }
    }

    private static final class ClassEntry {
        private final int name;

        private ClassEntry(int name) {
            this.name = name;
        }
    }

    private static final class NameEntry {
        private final int name;

        private NameEntry(int name) {
            this.name = name;
        }
    }

    /** A field or a method. */
    private static final class Reference {
        private final int owner;
        private final int nameAndType;

        private Reference(int owner, int nameAndType) {
            this.owner = owner;
            this.nameAndType = nameAndType;
        }

        private String ownerIn(Object[] pool) {
            return (String) pool[((ClassEntry) pool[owner]).name];
        }

        private String nameIn(Object[] pool) {
            return (String) pool[((NameEntry) pool[nameAndType]).name];
        }
    }

    private static Object[] poolOf(Class<?> type) throws IOException {
        try (InputStream stream = type.getResourceAsStream("/" + type.getName() + ".class")) {
            DataInputStream bytes = new DataInputStream(new ByteArrayInputStream(stream.readAllBytes()));
            // The magic number and the version.
            bytes.readLong();
            Object[] pool = new Object[bytes.readUnsignedShort()];
            for (int index = 1; index < pool.length; index++) {
                int tag = bytes.readUnsignedByte();
                pool[index] = entryOf(tag, bytes);
                // A long takes two places.
                index += tag == 5 || tag == 6 ? 1 : 0;
            }
            return pool;
        }
    }

    private static Object entryOf(int tag, DataInputStream bytes) throws IOException {
        switch (tag) {
            case 1:
                return bytes.readUTF();
            case 3:
                return bytes.readInt();
            case 5:
                return bytes.readLong();
            case 7:
                return new ClassEntry(bytes.readUnsignedShort());
            case 8:
                return bytes.readUnsignedShort();
            case 9:
            case 10:
            case 11:
                return new Reference(bytes.readUnsignedShort(), bytes.readUnsignedShort());
            case 12:
                NameEntry entry = new NameEntry(bytes.readUnsignedShort());
                bytes.readUnsignedShort();
                return entry;
            default:
                // Floats, doubles, lambdas and joined texts: none of them is in the class.
                throw new IllegalStateException("rule 2 or 3: a constant of the kind " + tag);
        }
    }
}
