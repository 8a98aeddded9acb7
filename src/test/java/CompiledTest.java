import java.io.PrintWriter;
import java.io.StringWriter;
import java.net.URISyntaxException;
import java.nio.file.Path;
import java.util.ArrayList;
import java.util.HashMap;
import java.util.HashSet;
import java.util.List;
import java.util.Map;
import java.util.Optional;
import java.util.Set;
import java.util.regex.Matcher;
import java.util.regex.Pattern;
import java.util.spi.ToolProvider;

/**
 * Those rules of LANGUAGE.md that the compiled class tells: which library it calls, how deep calls go, how long
 * methods are, and that only constructors make objects, so no run of calls fills the room.
 */
public final class CompiledTest {
    private static final Pattern METHOD = Pattern.compile("^  (?:\\w+ )*(?:[\\w$\\[\\]]+ )?([\\w$]+)\\([^)]*\\);$");
    private static final Pattern STEP = Pattern.compile("^ +\\d+: (\\w+)(?: .*)?$");
    private static final Pattern CALL = Pattern.compile("// (?:Interface)?Method ([\\w$/.]*?)\\.?\"?(<?\\w+>?)\"?:");
    private static final Pattern LINE = Pattern.compile("^ +line (\\d+): \\d+$");
    private static final Set<String> LIBRARY =
        Set.of("java/lang/Object.<init>", "java/lang/Math.max", "java/lang/Math.min", "java/lang/Math.abs");
    private static final Set<String> FORBIDDEN_STEPS =
        Set.of("athrow", "monitorenter", "monitorexit", "invokedynamic", "checkcast", "multianewarray");
    private static final Set<String> STEPS_THAT_MAKE = Set.of("new", "newarray", "anewarray");
    private static final int DEEPEST = 8;
    private static final int LONGEST = 60;

    private static final Check CHECK = new Check("CompiledTest");
    private static final Map<String, Set<String>> CALLS = new HashMap<>();

    public static void main(String[] args) throws URISyntaxException {
        Optional<ToolProvider> javap = ToolProvider.findFirst("javap");
        if (javap.isEmpty()) {
            System.out.println("no javap here: the compiled class is not looked at");
            return;
        }
        List<Class<?>> all = new ArrayList<>(List.of(WhiteSlopes.class));
        all.addAll(List.of(WhiteSlopes.class.getDeclaredClasses()));
        for (Class<?> type : all) {
            read(type, textOf(javap.get(), type));
        }
        CHECK.due("the face was read", CALLS.containsKey("WhiteSlopes.snow"), true);
        CHECK.due("what stands inside was read", CALLS.size() > 50, true);
        for (String method : CALLS.keySet()) {
            CHECK.due(method + " goes " + DEEPEST + " deep at most", depthOf(method, new HashSet<>()) <= DEEPEST, true);
        }
        CHECK.finish();
    }

    private static String textOf(ToolProvider javap, Class<?> type) throws URISyntaxException {
        Path place = Path.of(type.getProtectionDomain().getCodeSource().getLocation().toURI());
        StringWriter text = new StringWriter();
        PrintWriter out = new PrintWriter(text);
        int result = javap.run(out, out, "-c", "-l", "-p", "-cp", place.toString(), type.getName());
        CHECK.due("javap of " + type.getName(), result, 0);
        return text.toString();
    }

    private static void read(Class<?> type, String text) {
        String method = "";
        int first = 0;
        for (String line : text.split("\n")) {
            Matcher head = METHOD.matcher(line);
            Matcher step = STEP.matcher(line);
            Matcher number = LINE.matcher(line);
            if (head.matches()) {
                boolean constructor = head.group(1).equals(type.getName());
                method = type.getName() + "." + (constructor ? "<init>" : head.group(1));
                CALLS.put(method, new HashSet<>());
                first = 0;
            } else if (step.matches()) {
                readStep(type, method, step.group(1), line);
            } else if (number.matches() && !method.endsWith("<init>")) {
                int at = Integer.parseInt(number.group(1));
                first = first == 0 ? at : Math.min(first, at);
                CHECK.due(method + " is short, up to line " + at, at - first < LONGEST, true);
            }
            CHECK.due(method + " catches", line.contains("Exception table"), false);
        }
    }

    private static void readStep(Class<?> type, String method, String step, String line) {
        CHECK.due(method + " has " + step, FORBIDDEN_STEPS.contains(step), false);
        if (STEPS_THAT_MAKE.contains(step)) {
            CHECK.due(method + " makes an object", method.endsWith("<init>"), true);
        }
        Matcher call = CALL.matcher(line);
        if (step.startsWith("invoke") && call.find()) {
            String owner = call.group(1).isEmpty() ? type.getName() : call.group(1);
            String callee = owner + "." + call.group(2);
            boolean own = owner.equals("WhiteSlopes") || owner.startsWith("WhiteSlopes$");
            CHECK.due(method + " calls " + callee, own || LIBRARY.contains(callee), true);
            CALLS.get(method).add(callee);
        } else {
            CHECK.due("a call is read: " + line.trim(), step.startsWith("invoke"), false);
        }
    }

    /** How many calls stand open at once, the library's own one among them; far too many for a method in itself. */
    private static int depthOf(String method, Set<String> open) {
        if (!open.add(method)) {
            return 1000;
        }
        int deepest = 0;
        for (String callee : CALLS.getOrDefault(method, Set.of())) {
            deepest = Math.max(deepest, depthOf(callee, open));
        }
        open.remove(method);
        return deepest + 1;
    }
}
