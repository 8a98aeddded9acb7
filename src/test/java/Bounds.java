import java.io.IOException;
import java.lang.reflect.InvocationTargetException;
import java.lang.reflect.Method;
import java.util.Arrays;
import java.util.Comparator;
import java.util.List;

/** Runs the tests of bounds in a class: those that say by {@link Holds} which sentence they hold to. */
final class Bounds {
    static final int[] NO_CLASSES = {-1, 12, 13, -12, Integer.MIN_VALUE, Integer.MAX_VALUE};

    private Bounds() {
    }

    static List<Method> testsOf(Class<?> tests) {
        return Arrays.stream(tests.getDeclaredMethods())
            .filter(method -> method.isAnnotationPresent(Holds.class))
            .sorted(Comparator.comparing(Method::getName))
            .toList();
    }

    /** Each test in both seasons; a test that throws has failed, and the others are run still. */
    static void run(Class<?> tests) throws IOException, IllegalAccessException {
        Check check = new Check(tests.getSimpleName());
        Document document = new Document();
        for (Method test : testsOf(tests)) {
            Holds holds = test.getAnnotation(Holds.class);
            checkQuotes(check, document, test.getName(), holds);
            for (Season season : Season.values()) {
                check.during(test.getName() + ", " + season + " (promise " + holds.promise() + ": "
                    + String.join(" .. ", holds.says()) + ")");
                try {
                    test.invoke(null, check, season);
                } catch (InvocationTargetException thrown) {
                    check.due("threw " + thrown.getCause(), true, false);
                }
            }
        }
        check.during("");
        check.due("there are tests", !testsOf(tests).isEmpty(), true);
        check.finish();
    }

    private static void checkQuotes(Check check, Document document, String test, Holds holds) {
        check.during(test);
        check.due("the document has promise " + holds.promise(), document.has(holds.promise()), true);
        for (String words : holds.says()) {
            check.due("the document says: " + words, document.quote(holds.promise(), words), true);
        }
    }
}
