import java.io.IOException;
import java.lang.reflect.Method;
import java.lang.reflect.Modifier;
import java.nio.file.Files;
import java.nio.file.Path;
import java.util.ArrayList;
import java.util.Arrays;
import java.util.List;
import java.util.Map;
import java.util.TreeMap;
import java.util.TreeSet;
import java.util.regex.Matcher;
import java.util.regex.Pattern;
import java.util.stream.Collectors;

/** README.md is right: its examples answer what they say, its tables have every call and test. */
public final class ReadmeTest {
    /** A call of an example, and the answer or the exception with which its comment begins. */
    private static final Pattern CALL = Pattern.compile("(\\w+\\.\\w+\\(.*\\)); +// (-?\\w+).*");
    private static final Pattern ROW =
            Pattern.compile("\\| `(\\w+ \\w+\\([^)]*\\))` \\|([^|]*)\\|([^|]*)\\|");
    private static final Pattern TEST = Pattern.compile("\\| `(\\w+Test)` \\|.*");
    private static final Pattern EXCEPTION = Pattern.compile("`(\\w+Exception)`");

    private final Checks checks = new Checks();
    private final List<String> lines;

    private ReadmeTest() throws IOException {
        lines = Files.readAllLines(Path.of("README.md"));
    }

    public static void main(String[] args) throws Exception {
        ReadmeTest test = new ReadmeTest();
        test.examples();
        test.tableOfCalls();
        test.tableOfTests();
        test.checks.end("ReadmeTest");
    }

    private void examples() throws Exception {
        StringBuilder text = new StringBuilder();
        text.append("public class Example {\n");
        text.append("public static void run(java.util.Map<String, Object> answers) {\n");
        Map<String, String> due = new TreeMap<>();
        for (String line : exampleLines()) {
            Matcher call = CALL.matcher(line);
            if (call.matches()) {
                String name = String.format("%02d %s", due.size(), call.group(1));
                due.put(name, call.group(2));
                text.append("try { answers.put(\"").append(name).append("\", ");
                text.append(call.group(1)).append("); } catch (RuntimeException e) { ");
                text.append("answers.put(\"").append(name);
                text.append("\", e.getClass().getSimpleName()); }\n");
            } else {
                text.append(line).append('\n');
            }
        }
        text.append("}\n}\n");
        Map<String, Object> answers = new TreeMap<>();
        ClassLoader parent = NarrowingPacker.class.getClassLoader();
        try (Compiling example = new Compiling("Example", text.toString(), parent)) {
            example.made.getMethod("run", Map.class).invoke(null, answers);
        }
        checks.yes("the examples have calls", due.size() > 15);
        checks.same("answers", answers.size(), due.size());
        due.forEach((name, answer) -> checks.same(name, "" + answers.get(name), answer));
    }

    /** What stands between ```java and ```, one block behind the other. */
    private List<String> exampleLines() {
        List<String> found = new ArrayList<>();
        boolean inside = false;
        for (String line : lines) {
            if (line.startsWith("```")) {
                inside = line.equals("```java");
            } else if (inside) {
                found.add(line);
            }
        }
        return found;
    }

    /** Each method of the face has a row, which names what it throws and nothing else. */
    private void tableOfCalls() {
        Map<String, String> seen = new TreeMap<>();
        for (String line : lines) {
            Matcher row = ROW.matcher(line);
            if (row.matches()) {
                String types = row.group(1).replaceAll("int \\w+([,)])", "int$1");
                seen.put(types, exceptionsIn(row.group(3)));
                checks.yes(types + " is told of", row.group(2).length() > 10);
            }
        }
        Map<String, String> due = new TreeMap<>();
        for (Method m : NarrowingPacker.class.getDeclaredMethods()) {
            if (Modifier.isPublic(m.getModifiers())) {
                String given = Arrays.stream(m.getParameterTypes())
                        .map(Class::getSimpleName).collect(Collectors.joining(", "));
                due.put(m.getReturnType() + " " + m.getName() + "(" + given + ")",
                        simpleNames(m.getExceptionTypes()));
            }
        }
        checks.same("the table of calls", seen, due);
    }

    private static String exceptionsIn(String text) {
        List<String> names = new ArrayList<>();
        Matcher named = EXCEPTION.matcher(text);
        while (named.find()) {
            names.add(named.group(1));
        }
        return names.toString();
    }

    private static String simpleNames(Class<?>[] types) {
        return Arrays.stream(types).map(Class::getSimpleName).toList().toString();
    }

    private void tableOfTests() throws IOException {
        TreeSet<String> seen = new TreeSet<>();
        for (String line : lines) {
            Matcher row = TEST.matcher(line);
            if (row.matches()) {
                seen.add(row.group(1) + ".java");
            }
        }
        TreeSet<String> due = new TreeSet<>();
        try (var files = Files.list(Path.of("src/test/java"))) {
            files.map(file -> file.getFileName().toString())
                    .filter(name -> name.endsWith("Test.java")).forEach(due::add);
        }
        checks.same("the table of tests", seen, due);
    }
}
