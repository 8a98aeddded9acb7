import java.io.IOException;
import java.lang.reflect.InvocationTargetException;
import java.lang.reflect.Method;
import java.lang.reflect.Modifier;
import java.nio.file.DirectoryStream;
import java.nio.file.Files;
import java.nio.file.Path;
import java.util.Arrays;
import java.util.Set;
import java.util.TreeSet;
import java.util.regex.Matcher;
import java.util.regex.Pattern;

/** What README.md says is true: its run answers so, and its tables name the calls and the tests that there are. */
public final class ReadmeTest {
    private static final Path README = Path.of("README.md");
    private static final Path TESTS = Path.of("src/test/java");
    private static final Pattern BLOCK = Pattern.compile("(?s)```java\n(.*?)```");
    private static final Pattern STEP = Pattern.compile("x\\.(\\w+)\\(([-\\d, ]*)\\); +// (true|false|-?\\d+)(?::.*)?");
    private static final Pattern CALL_ROW = Pattern.compile("(?m)^\\| `(\\w+)\\(([\\w, ]*)\\)` \\|");
    private static final Pattern TEST_ROW = Pattern.compile("(?m)^\\| `(\\w+Test)` \\|");
    private static final Pattern PLACE =
        Pattern.compile("(src/(?:main|tools)/java/\\w+\\.java|\\.ci/run|\\.\\./shared/\\w+(?:\\.md)?)");
    private static final int MOST_CALLS = 512;

    private static final Check CHECK = new Check("ReadmeTest");

    public static void main(String[] args) throws IOException, ReflectiveOperationException {
        String text = Files.readString(README);
        Set<String> face = face();
        CHECK.due("the run uses all calls: " + face, run(text).equals(namesOf(face)), true);
        CHECK.due("the table has the calls: " + face, callsOf(text).equals(face), true);
        Set<String> tests = testsThere();
        CHECK.due("the tables have the tests: " + tests, allOf(TEST_ROW, text).equals(tests), true);
        for (String place : allOf(PLACE, text)) {
            CHECK.due("there is " + place, Files.exists(Path.of(place)), true);
        }
        CHECK.finish();
    }

    /** The calls of the class, each with how many arguments it takes. */
    private static Set<String> face() {
        Set<String> face = new TreeSet<>();
        for (Method method : WhiteSlopes.class.getDeclaredMethods()) {
            if (Modifier.isPublic(method.getModifiers())) {
                face.add(method.getName() + " " + method.getParameterCount());
            }
        }
        return face;
    }

    private static Set<String> namesOf(Set<String> face) {
        Set<String> names = new TreeSet<>();
        face.forEach(call -> names.add(call.substring(0, call.indexOf(' '))));
        return names;
    }

    /** Makes the run and compares; the names of the calls in it. */
    private static Set<String> run(String text) throws ReflectiveOperationException {
        Set<String> used = new TreeSet<>();
        Matcher block = BLOCK.matcher(text);
        CHECK.due("there is a run", block.find(), true);
        String[] lines = block.group(1).split("\n");
        CHECK.due("it makes an object", lines[0].equals("WhiteSlopes x = new WhiteSlopes();"), true);
        CHECK.due("it is no longer than an object's calls", lines.length - 1 <= MOST_CALLS, true);
        WhiteSlopes x = new WhiteSlopes();
        for (int i = 1; i < lines.length; i++) {
            Matcher step = STEP.matcher(lines[i]);
            CHECK.due("'" + lines[i] + "' says what it answers", step.matches(), true);
            if (step.matches()) {
                used.add(step.group(1));
                String got = call(x, step.group(1), step.group(2)).toString();
                CHECK.due(lines[i] + " (answered " + got + ")", got.equals(step.group(3)), true);
            }
        }
        return used;
    }

    private static Object call(WhiteSlopes x, String name, String arguments) throws ReflectiveOperationException {
        Object[] values = arguments.isBlank() ? new Object[0]
            : Arrays.stream(arguments.split(",")).map(argument -> Integer.valueOf(argument.trim())).toArray();
        Class<?>[] types = new Class<?>[values.length];
        Arrays.fill(types, int.class);
        try {
            return WhiteSlopes.class.getMethod(name, types).invoke(x, values);
        } catch (InvocationTargetException thrown) {
            return thrown.getCause();
        }
    }

    private static Set<String> callsOf(String text) {
        Set<String> calls = new TreeSet<>();
        Matcher row = CALL_ROW.matcher(text);
        while (row.find()) {
            calls.add(row.group(1) + " " + (row.group(2).isEmpty() ? 0 : row.group(2).split(",").length));
        }
        return calls;
    }

    private static Set<String> allOf(Pattern pattern, String text) {
        Set<String> all = new TreeSet<>();
        Matcher found = pattern.matcher(text);
        while (found.find()) {
            all.add(found.group(1));
        }
        return all;
    }

    private static Set<String> testsThere() throws IOException {
        Set<String> tests = new TreeSet<>();
        try (DirectoryStream<Path> files = Files.newDirectoryStream(TESTS, "*Test.java")) {
            files.forEach(file -> tests.add(file.getFileName().toString().replace(".java", "")));
        }
        return tests;
    }
}
