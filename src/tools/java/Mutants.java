import java.io.IOException;
import java.io.OutputStream;
import java.nio.file.DirectoryStream;
import java.nio.file.Files;
import java.nio.file.Path;
import java.util.ArrayList;
import java.util.List;
import java.util.Map;
import java.util.concurrent.ExecutionException;
import java.util.concurrent.ExecutorService;
import java.util.concurrent.Executors;
import java.util.concurrent.Future;
import java.util.concurrent.TimeUnit;
import java.util.regex.Matcher;
import java.util.regex.Pattern;
import javax.tools.ToolProvider;

/**
 * Changes the program in one spot at a time (a number by one, a comparison, a sign, a statement left out) and runs
 * the tests of bounds on it: a change that no test sees is printed. Not a part of .ci/run, as some changes change no
 * answer and a reader must tell them from those that want a test. From the project's root:
 * java src/tools/java/Mutants.java
 */
public final class Mutants {
    private static final Path PROGRAM = Path.of("src/main/java/WhiteSlopes.java");
    private static final Path TESTS = Path.of("src/test/java");
    private static final long SECONDS_FOR_A_TEST = 60;
    private static final Map<String, List<String>> OTHERS = Map.ofEntries(
        Map.entry("<", List.of("<=", ">=")), Map.entry("<=", List.of("<", ">", "==")),
        Map.entry(">", List.of(">=", "<=")), Map.entry(">=", List.of(">", "<", "==")),
        Map.entry("==", List.of("!=", "<=", ">=")), Map.entry("!=", List.of("==")),
        Map.entry("&&", List.of("||")), Map.entry("||", List.of("&&")),
        Map.entry("+", List.of("-")), Map.entry("-", List.of("+")),
        Map.entry("*", List.of("+")), Map.entry("/", List.of("*")), Map.entry("%", List.of("/")),
        Map.entry("+=", List.of("-=", "=")), Map.entry("-=", List.of("+=", "=")));

    private record Mutant(int from, int to, String with) {
        String in(String text) {
            return text.substring(0, from) + with + text.substring(to);
        }

        String in(String text, String[] lines) {
            int line = (int) text.substring(0, from).chars().filter(sign -> sign == '\n').count();
            String change = text.substring(from, to) + " -> " + with;
            return "line " + (line + 1) + ": " + lines[line].trim() + "   [" + change + "]";
        }
    }

    public static void main(String[] args) throws IOException, InterruptedException, ExecutionException {
        String text = Files.readString(PROGRAM);
        Path work = Files.createTempDirectory("mutants");
        List<String> names = compileTests(work.resolve("tests"));
        List<Mutant> mutants = mutantsOf(withoutComments(text));
        ExecutorService pool = Executors.newFixedThreadPool(Runtime.getRuntime().availableProcessors());
        List<Future<Boolean>> unseen = new ArrayList<>();
        for (Mutant mutant : mutants) {
            Path place = work.resolve("mutant" + unseen.size());
            unseen.add(pool.submit(() -> isUnseen(mutant.in(text), place, work.resolve("tests"), names)));
        }
        int left = 0;
        for (int i = 0; i < mutants.size(); i++) {
            if (unseen.get(i).get()) {
                left++;
                System.out.println(mutants.get(i).in(text, text.split("\n", -1)));
            }
        }
        pool.shutdown();
        System.out.println(left + " of " + mutants.size() + " changes are seen by no test of bounds");
    }

    private static boolean compiles(Path place, List<Path> sources) {
        List<String> arguments = new ArrayList<>(List.of("-nowarn", "-d", place.toString()));
        sources.forEach(source -> arguments.add(source.toString()));
        OutputStream nowhere = OutputStream.nullOutputStream();
        return ToolProvider.getSystemJavaCompiler().run(null, nowhere, nowhere, arguments.toArray(new String[0])) == 0;
    }

    /** The names of the tests of bounds; the program that was compiled with them is hidden by the changed one. */
    private static List<String> compileTests(Path place) throws IOException {
        List<Path> sources = new ArrayList<>(List.of(PROGRAM));
        List<String> names = new ArrayList<>();
        try (DirectoryStream<Path> files = Files.newDirectoryStream(TESTS, "*.java")) {
            for (Path file : files) {
                sources.add(file);
                String name = file.getFileName().toString().replace(".java", "");
                if (name.endsWith("BoundsTest")) {
                    names.add(name);
                }
            }
        }
        if (!compiles(place, sources)) {
            throw new IOException("the tests do not compile");
        }
        return names;
    }

    /** Whether a change compiles and passes all tests; a test that doesn't end has seen it. */
    private static boolean isUnseen(String text, Path place, Path tests, List<String> names)
            throws IOException, InterruptedException {
        Files.createDirectories(place);
        Path source = Files.writeString(place.resolve("WhiteSlopes.java"), text);
        if (!compiles(place, List.of(source))) {
            return false;
        }
        for (String name : names) {
            Process test = new ProcessBuilder("java", "-XX:TieredStopAtLevel=1", "-cp", place + ":" + tests, name)
                .redirectErrorStream(true).redirectOutput(ProcessBuilder.Redirect.DISCARD).start();
            boolean ended = test.waitFor(SECONDS_FOR_A_TEST, TimeUnit.SECONDS);
            if (!ended || test.exitValue() != 0) {
                test.destroyForcibly();
                return false;
            }
        }
        return true;
    }

    /** The same text, with spaces where comments are. */
    private static String withoutComments(String text) {
        Matcher comments = Pattern.compile("(?s)/\\*.*?\\*/|//[^\n]*").matcher(text);
        return comments.replaceAll(found -> found.group().replaceAll("[^\n]", " "));
    }

    private static List<Mutant> mutantsOf(String code) {
        List<Mutant> all = new ArrayList<>();
        Matcher numbers = Pattern.compile("(?<![\\w.])\\d+(?![\\w.])").matcher(code);
        while (numbers.find()) {
            int value = Integer.parseInt(numbers.group());
            all.add(new Mutant(numbers.start(), numbers.end(), "" + (value + 1)));
            all.add(new Mutant(numbers.start(), numbers.end(), "(" + (value - 1) + ")"));
        }
        Matcher signs = Pattern.compile("(?<= )(?:[<>=!]=|[<>+*/%-]|&&|\\|\\||[+-]=)(?= )").matcher(code);
        while (signs.find()) {
            OTHERS.get(signs.group()).forEach(other -> all.add(new Mutant(signs.start(), signs.end(), other)));
        }
        addAll(all, code, "(?<=if \\().*(?=\\) \\{)", "true", "false");
        addAll(all, code, "\\btrue\\b", "false");
        addAll(all, code, "\\bfalse\\b", "true");
        addAll(all, code, "Math\\.min", "Math.max");
        addAll(all, code, "Math\\.max", "Math.min");
        addAll(all, code, "(?m)(?<=^ {8,16})(?!return|break|private)[a-z][^;{}]*;(?=$)", ";");
        return all;
    }

    private static void addAll(List<Mutant> all, String code, String pattern, String... others) {
        Matcher found = Pattern.compile(pattern).matcher(code);
        while (found.find()) {
            for (String other : others) {
                all.add(new Mutant(found.start(), found.end(), other));
            }
        }
    }
}
