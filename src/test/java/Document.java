import java.io.IOException;
import java.nio.charset.StandardCharsets;
import java.nio.file.Files;
import java.nio.file.Path;
import java.util.BitSet;
import java.util.LinkedHashMap;
import java.util.Map;

/**
 * The document's words, by its parts. A test quotes the sentence that it tests: a quote that the
 * document does not say is wrong, and so are words of a part that no test has quoted.
 */
final class Document {
    private static final Path PLACE = Path.of("../shared/DOC.md");

    private final Checks checks;
    private final Map<String, String> texts = new LinkedHashMap<>();
    private final Map<String, BitSet> quoted = new LinkedHashMap<>();

    Document(Checks checks) {
        this.checks = checks;
        StringBuilder text = new StringBuilder();
        String part = "";
        for (String line : lines()) {
            if (line.startsWith("## ") || line.startsWith("== ")) {
                put(part, text.toString());
                text.setLength(0);
                part = line.startsWith("## ") ? line.substring(3) : line;
            } else if (!line.startsWith("```") && !line.startsWith("Ahead of the calls ")) {
                text.append(withoutNames(line)).append(' ');
            }
        }
        put(part, text.toString());
    }

    private static Iterable<String> lines() {
        try {
            return Files.readAllLines(PLACE, StandardCharsets.UTF_8);
        } catch (IOException e) {
            throw new IllegalStateException("the document can not be read", e);
        }
    }

    /** A signature, and an argument of which no edge is told, are nothing to quote. */
    private static String withoutNames(String line) {
        String told = line.replaceFirst("^`[^`]*`: ", "");
        boolean isArgument = told.startsWith("- `");
        return isArgument && !told.matches(".*([0-9]|NONE).*") ? "" : told.replaceFirst("^- ", "");
    }

    private void put(String part, String text) {
        texts.put(part, text.replaceAll("\\s+", " ").trim());
        quoted.put(part, new BitSet());
    }

    /** The words are tested by the test that quotes them. */
    void quote(String part, String words) {
        String found = partOf(part);
        int at = found == null ? -1 : texts.get(found).indexOf(words);
        checks.dueTrue("the document says under " + part + ": " + words, at >= 0);
        if (at >= 0) {
            quoted.get(found).set(at, at + words.length());
        }
    }

    /** The words name nothing that a test could tell. */
    void plain(String part, String words) {
        quote(part, words);
    }

    private String partOf(String start) {
        for (String part : texts.keySet()) {
            if (part.equals(start) || part.startsWith(start + ":") || part.startsWith(start + ".")) {
                return part;
            }
        }
        return null;
    }

    void dueAllQuoted(String start) {
        int parts = 0;
        for (String part : texts.keySet()) {
            if (part.startsWith(start)) {
                parts++;
                checks.dueText("not quoted of " + part, leftOf(part), "");
            }
        }
        checks.dueTrue("there are parts that start with " + start, parts > 0);
    }

    private String leftOf(String part) {
        StringBuilder left = new StringBuilder();
        String text = texts.get(part);
        for (int i = 0; i < text.length(); i++) {
            left.append(quoted.get(part).get(i) ? ' ' : text.charAt(i));
        }
        return left.toString().replaceAll("[\\s;:,.]+", " ").trim();
    }
}
