import java.io.IOException;
import java.nio.file.Files;
import java.nio.file.Path;
import java.util.LinkedHashMap;
import java.util.List;
import java.util.Map;

/** The document's words, section by section, and which of them some test has quoted. */
final class Document {
    private static final Path FILE = Path.of("../shared/DOC.md");
    private static final Map<String, StringBuilder> SECTIONS = sections();
    private static final Map<String, boolean[]> QUOTED = new LinkedHashMap<>();

    private Document() {
    }

    /** Terms are sections 0 (the answers), 1, 2 and 3, a promise is P and its number. */
    private static Map<String, StringBuilder> sections() {
        Map<String, StringBuilder> found = new LinkedHashMap<>();
        String section = "";
        for (String line : lines()) {
            String words = line.trim();
            if (words.startsWith("## ")) {
                section = words.equals("## Terms") ? "0" : words.startsWith("## Promise ") ? "P" + words.replaceAll("\\D", "") : "";
                continue;
            }
            if (words.matches("==== \\d .*")) {
                section = words.substring(5, 6);
                words = words.substring(7);
            }
            boolean told = !words.isEmpty() && !words.startsWith("```") && !words.startsWith("Ahead of the calls");
            if (told && !section.isEmpty()) {
                found.computeIfAbsent(section, s -> new StringBuilder()).append(words.replaceAll("^`[^`]*`: ", "")).append(' ');
            }
        }
        return found;
    }

    /** Without the document the rows are still looked at; only their quotations are not. */
    private static List<String> lines() {
        if (!Files.exists(FILE)) {
            System.out.println("there is no " + FILE + ": quotations are not looked at");
            return List.of();
        }
        try {
            return Files.readAllLines(FILE);
        } catch (IOException e) {
            throw new IllegalStateException("the document can't be read: " + FILE, e);
        }
    }

    /** A section's words, or null if there is no document. */
    static String section(String section) {
        StringBuilder words = SECTIONS.get(section);
        return words == null ? null : words.toString();
    }

    static void quote(String section, String words) {
        if (SECTIONS.isEmpty()) {
            return;
        }
        StringBuilder text = SECTIONS.get(section);
        int at = text == null ? -1 : text.indexOf(words);
        Due.holds("section " + section + " of the document says: " + words, at >= 0);
        if (at < 0) {
            return;
        }
        boolean[] marks = QUOTED.computeIfAbsent(section, s -> new boolean[text.length()]);
        for (int k = at; k < at + words.length(); k++) {
            marks[k] = true;
        }
    }

    /** Every word of every section stands in some test's quotation. */
    static void isQuotedWhole() {
        if (SECTIONS.isEmpty()) {
            return;
        }
        Due.is("sections of the document", SECTIONS.size(), 34);
        for (Map.Entry<String, StringBuilder> section : SECTIONS.entrySet()) {
            boolean[] marks = QUOTED.getOrDefault(section.getKey(), new boolean[section.getValue().length()]);
            StringBuilder bare = new StringBuilder();
            for (int k = 0; k < marks.length; k++) {
                bare.append(marks[k] || !Character.isLetterOrDigit(section.getValue().charAt(k)) ? ' ' : section.getValue().charAt(k));
            }
            Due.holds("section " + section.getKey() + " has no test for: " + bare, bare.toString().isBlank());
        }
    }
}
