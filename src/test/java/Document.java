import java.io.IOException;
import java.nio.file.Files;
import java.nio.file.Path;
import java.util.ArrayList;
import java.util.Arrays;
import java.util.LinkedHashMap;
import java.util.List;
import java.util.Map;

/** The document's sections, and which of their words some test quotes. */
final class Document {
    private static final Path PLACE = Path.of("../shared/DOC.md");
    private static final String TERMS = "Terms";
    private static final String INTRODUCTION = "What it is";

    private final Map<String, String> sections = new LinkedHashMap<>();
    private final Map<String, boolean[]> quoted = new LinkedHashMap<>();

    Document() throws IOException {
        if (!Files.isReadable(PLACE)) {
            System.out.println("no document at " + PLACE + ": its words are not looked at");
            return;
        }
        for (String part : Files.readString(PLACE).split("(?m)^## ")) {
            int end = part.indexOf('\n');
            if (end > 0) {
                String name = part.substring(0, end).trim();
                String text = plain(part.substring(end));
                sections.put(name, text);
                quoted.put(name, new boolean[text.length()]);
            }
        }
    }

    /** Without the marks of the form, the numbers of the parts, and the head of a call, which a quote leaves out. */
    private static String plain(String text) {
        String flat = text.replaceAll("(?m)^```.*$", " ").replaceAll("==== \\d+\\.", " ").replaceAll("\\s+", " ");
        return flat.trim().replaceFirst("^`[^`]*\\)`: ", "");
    }

    /** Whether these words stand in the promise, in the terms or in the introduction; they are quoted from now on. */
    boolean quote(String promise, String words) {
        if (sections.isEmpty()) {
            return true;
        }
        for (String name : new String[] {"Promise " + promise, TERMS, INTRODUCTION}) {
            int at = sections.getOrDefault(name, "").indexOf(words);
            if (at >= 0) {
                Arrays.fill(quoted.get(name), at, at + words.length(), true);
                return true;
            }
        }
        return false;
    }

    boolean has(String promise) {
        return sections.isEmpty() || sections.containsKey("Promise " + promise);
    }

    /** What no test quotes of the terms and the promises, by pieces that have a letter or a digit. */
    List<String> unquoted() {
        List<String> pieces = new ArrayList<>();
        for (String name : sections.keySet()) {
            if (name.equals(TERMS) || name.startsWith("Promise ")) {
                addUnquoted(name, pieces);
            }
        }
        return pieces;
    }

    private void addUnquoted(String name, List<String> pieces) {
        String text = sections.get(name);
        boolean[] marks = quoted.get(name);
        for (int from = 0; from < text.length(); from++) {
            int to = from;
            while (to < text.length() && !marks[to]) {
                to++;
            }
            String piece = text.substring(from, to);
            if (piece.matches(".*[A-Za-z0-9].*")) {
                pieces.add(name + ": " + piece);
            }
            from = to;
        }
    }
}
