import java.io.IOException;
import java.lang.reflect.InvocationTargetException;
import java.lang.reflect.Method;
import java.nio.file.Files;
import java.nio.file.Path;
import java.util.ArrayList;
import java.util.Arrays;
import java.util.List;
import java.util.TreeSet;
import java.util.regex.Matcher;
import java.util.regex.Pattern;
import java.util.stream.Stream;

/** README.md: its examples answer as it says, and its tables name all calls and all tests. */
final class ReadmeTest {
    private static final String MAKES = "ScriptDesk desk = new ScriptDesk();";
    private static final Pattern CALLS = Pattern.compile("desk\\.(\\w+)\\((.*)\\); +// (\\w+)(: .+)?");
    private static final Pattern CALL_ROW = Pattern.compile("\\| `(\\w+)\\((.*)\\)` \\| .+ \\| (.+) \\|");
    private static final Pattern TEST_ROW = Pattern.compile("\\| `(\\w+)` \\| .+ \\|");

    public static void main(String[] args) throws IOException, ReflectiveOperationException {
        List<String> lines = Files.readAllLines(Path.of("README.md"));
        examples(lines);
        callTable(lines);
        testTable(lines);
        Check.finish();
    }

    private static void examples(List<String> lines) throws ReflectiveOperationException {
        Check.about("README.md, Use: an example");
        TreeSet<String> shown = new TreeSet<>();
        ScriptDesk desk = null;
        boolean inside = false;
        for (String line : lines) {
            if (line.startsWith("```")) {
                inside = line.equals("```java");
            } else if (inside && line.equals(MAKES)) {
                desk = new ScriptDesk();
            } else if (inside) {
                Matcher call = CALLS.matcher(line);
                // A line that cannot be read is wrong too: it would be tested by nobody.
                Check.same(line, call.matches() && desk != null, true);
                if (call.matches() && desk != null) {
                    shown.add(call.group(1));
                    Check.same(line, answer(desk, call.group(1), call.group(2)), due(call.group(3)));
                }
            }
        }
        Check.same("calls that are shown", shown, faceNames());
    }

    private static String answer(ScriptDesk desk, String name, String arguments) throws ReflectiveOperationException {
        Object[] values = Stream.of(arguments.split(", *")).filter(word -> !word.isEmpty())
            .map(ReadmeTest::value).toArray();
        try {
            return method(name).invoke(desk, values).toString();
        } catch (InvocationTargetException e) {
            return e.getCause().getClass().getSimpleName();
        }
    }

    private static String due(String word) {
        return word.endsWith("Exception") ? word : Integer.toString(value(word));
    }

    /** As in Java, where 0xffffffff is an int. */
    private static int value(String word) {
        return (int) (long) Long.decode(word);
    }

    private static Method method(String name) throws NoSuchMethodException {
        for (Method method : ScriptDesk.class.getMethods()) {
            if (method.getName().equals(name)) {
                return method;
            }
        }
        throw new NoSuchMethodException(name);
    }

    private static TreeSet<String> faceNames() {
        TreeSet<String> names = new TreeSet<>();
        for (Method method : ScriptDesk.class.getMethods()) {
            if (method.getDeclaringClass() == ScriptDesk.class) {
                names.add(method.getName());
            }
        }
        return names;
    }

    private static void callTable(List<String> lines) throws NoSuchMethodException {
        Check.about("README.md, Use: the table of calls");
        TreeSet<String> named = new TreeSet<>();
        for (String line : lines) {
            Matcher row = CALL_ROW.matcher(line);
            if (row.matches()) {
                named.add(row.group(1));
                Method method = method(row.group(1));
                int arguments = row.group(2).isEmpty() ? 0 : row.group(2).split(",").length;
                Check.same(row.group(1) + " takes", arguments, method.getParameterCount());
                Check.same(row.group(1) + " throws", exceptions(row.group(3)), exceptions(method));
            }
        }
        Check.same("calls that are named", named, faceNames());
    }

    private static List<String> exceptions(String cell) {
        List<String> names = new ArrayList<>();
        Matcher name = Pattern.compile("`(\\w+Exception)`").matcher(cell);
        while (name.find()) {
            names.add(name.group(1));
        }
        return names;
    }

    private static List<String> exceptions(Method method) {
        return Arrays.stream(method.getExceptionTypes()).map(Class::getSimpleName).toList();
    }

    private static void testTable(List<String> lines) throws IOException {
        Check.about("README.md, Tests: the table of tests");
        TreeSet<String> named = new TreeSet<>();
        for (String line : lines) {
            Matcher row = TEST_ROW.matcher(line);
            if (row.matches()) {
                named.add(row.group(1));
            }
        }
        Check.same("tests that are named", named, testFiles());
    }

    private static TreeSet<String> testFiles() throws IOException {
        TreeSet<String> names = new TreeSet<>();
        try (Stream<Path> files = Files.list(Path.of("src/test/java"))) {
            files.map(file -> file.getFileName().toString()).filter(name -> name.endsWith("Test.java"))
                .forEach(name -> names.add(name.replace(".java", "")));
        }
        return names;
    }
}
