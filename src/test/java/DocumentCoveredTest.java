import java.io.IOException;
import java.lang.reflect.Method;
import java.nio.file.DirectoryStream;
import java.nio.file.Files;
import java.nio.file.Path;

/** Every word of the document's terms and promises is quoted by a test of bounds, so no sentence is left out. */
public final class DocumentCoveredTest {
    private static final Path TESTS = Path.of("src/test/java");

    public static void main(String[] args) throws IOException, ClassNotFoundException {
        Check check = new Check("DocumentCoveredTest");
        Document document = new Document();
        int classes = 0;
        try (DirectoryStream<Path> files = Files.newDirectoryStream(TESTS, "*BoundsTest.java")) {
            for (Path file : files) {
                classes++;
                quoteAll(document, Class.forName(file.getFileName().toString().replace(".java", "")));
            }
        }
        check.due("classes of bounds were found", classes > 0, true);
        for (String piece : document.unquoted()) {
            check.due("a test quotes '" + piece + "'", false, true);
        }
        check.finish();
    }

    private static void quoteAll(Document document, Class<?> tests) {
        for (Method test : Bounds.testsOf(tests)) {
            Holds holds = test.getAnnotation(Holds.class);
            for (String words : holds.says()) {
                document.quote(holds.promise(), words);
            }
        }
    }
}
