import java.io.IOException;
import java.lang.reflect.Constructor;
import java.lang.reflect.Field;
import java.lang.reflect.Method;
import java.lang.reflect.Modifier;
import java.nio.file.Files;
import java.nio.file.Path;
import java.util.Arrays;
import java.util.Set;
import java.util.TreeSet;

/** The public face is the document's, and nothing else of the class can be seen (rule 1). */
public final class FaceTest {
    private static final Set<String> DUE = new TreeSet<>(Arrays.asList(
            "boolean type(int)",
            "int wipe()",
            "int pack() throws IllegalStateException",
            "int packets()",
            "int packet(int,int)",
            "int chance(int,int)",
            "int size()",
            "int at(int)",
            "boolean add(int)",
            "int put(int,int) throws IndexOutOfBoundsException,IllegalArgumentException",
            "int cut(int) throws IllegalArgumentException",
            "int unpack() throws NoSuchElementException,IllegalArgumentException,"
                    + "IndexOutOfBoundsException,IllegalStateException",
            "int told()",
            "int byteAt(int)"));

    private final Checks checks = new Checks();
    private final Set<String> publicNames = new TreeSet<>();

    public static void main(String[] args) throws IOException {
        FaceTest test = new FaceTest();
        test.theClass();
        test.methods();
        test.constant();
        test.classesInside();
        test.imports();
        test.checks.end("FaceTest");
    }

    private void theClass() {
        int modifiers = NarrowingPacker.class.getModifiers();
        checks.yes("public", Modifier.isPublic(modifiers));
        checks.yes("final", Modifier.isFinal(modifiers));
        Constructor<?>[] made = NarrowingPacker.class.getDeclaredConstructors();
        checks.same("constructors", made.length, 1);
        checks.same("constructor", made[0].toString(), "public NarrowingPacker(int)");
    }

    private void methods() {
        Set<String> seen = new TreeSet<>();
        for (Method m : NarrowingPacker.class.getDeclaredMethods()) {
            if (Modifier.isPublic(m.getModifiers())) {
                seen.add(written(m));
                publicNames.add(m.getName());
                checks.yes(m.getName() + " is no static method", !Modifier.isStatic(m.getModifiers()));
            }
        }
        checks.same("the public methods", seen, DUE);
        for (Method m : NarrowingPacker.class.getDeclaredMethods()) {
            int modifiers = m.getModifiers();
            checks.yes(m + " is public or private",
                    Modifier.isPublic(modifiers) || Modifier.isPrivate(modifiers));
            checks.yes(m + " bears no public name",
                    Modifier.isPublic(modifiers) || !publicNames.contains(m.getName()));
        }
    }

    private static String written(Method m) {
        StringBuilder text = new StringBuilder();
        text.append(m.getReturnType().getSimpleName()).append(' ').append(m.getName());
        text.append('(').append(names(m.getParameterTypes())).append(')');
        if (m.getExceptionTypes().length > 0) {
            text.append(" throws ").append(names(m.getExceptionTypes()));
        }
        return text.toString();
    }

    private static String names(Class<?>[] types) {
        StringBuilder text = new StringBuilder();
        for (Class<?> type : types) {
            text.append(text.length() == 0 ? "" : ",").append(type.getSimpleName());
        }
        return text.toString();
    }

    private void constant() {
        checks.same("NONE", NarrowingPacker.NONE, -1);
        for (Field f : NarrowingPacker.class.getDeclaredFields()) {
            if (f.getName().equals("NONE")) {
                checks.same("NONE", f.toString(), "public static final int NarrowingPacker.NONE");
            } else {
                checks.yes(f + " is private", Modifier.isPrivate(f.getModifiers()));
            }
            checks.yes(f + " is final, if static",
                    !Modifier.isStatic(f.getModifiers()) || Modifier.isFinal(f.getModifiers()));
        }
    }

    private void classesInside() {
        Class<?>[] inside = NarrowingPacker.class.getDeclaredClasses();
        checks.yes("at most twelve classes", inside.length + 1 <= 12);
        for (Class<?> c : inside) {
            checks.yes(c + " is private", Modifier.isPrivate(c.getModifiers()));
            checks.yes(c + " is static", Modifier.isStatic(c.getModifiers()));
            checks.yes(c + " has some twenty fields", c.getDeclaredFields().length <= 20);
            for (Method m : c.getDeclaredMethods()) {
                checks.yes(m + " bears no public name", !publicNames.contains(m.getName()));
                checks.yes(m + " has seven parameters at most", m.getParameterCount() <= 7);
            }
        }
    }

    /** The library that rule 4 leaves is nearly nothing: no other import may slip in. */
    private void imports() throws IOException {
        Set<String> seen = new TreeSet<>();
        for (String line : Files.readAllLines(Path.of("src/main/java/NarrowingPacker.java"))) {
            if (line.startsWith("import ") || line.startsWith("package ")) {
                seen.add(line);
            }
        }
        checks.same("imports", seen, new TreeSet<>(Arrays.asList(
                "import java.util.Arrays;", "import java.util.NoSuchElementException;")));
    }
}
