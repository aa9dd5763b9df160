import java.io.IOException;
import java.nio.file.Files;
import java.nio.file.Path;
import java.util.LinkedHashMap;
import java.util.Map;
import java.util.regex.Matcher;
import java.util.regex.Pattern;

/**
 * The document's own words. A test of a sentence says which one it keeps; words that are not in the document,
 * and words of the Terms and the promises that no test says, are told.
 */
final class Doc {
    private static final Path FILE = Path.of("../shared/DOC.md");
    private static final Pattern HEADING = Pattern.compile("(?m)^(?:## (?:Promise (\\d+))?.*|==== (I{1,2})\\. )");
    private static final Map<String, String> SECTIONS = new LinkedHashMap<>();
    private static final Map<String, boolean[]> SAID = new LinkedHashMap<>();

    private Doc() {
    }

    static void open() throws IOException {
        if (!isThere()) {
            System.out.println("no document at " + FILE + ": sentences are tested, but not looked up");
            return;
        }
        String text = Files.readString(FILE).replace("```text", "").replace("```java", "").replace("```", "");
        Matcher m = HEADING.matcher(text);
        String name = null;
        int from = 0;
        while (m.find()) {
            keep(name, text.substring(from, m.start()));
            name = m.group(1) != null ? m.group(1) : m.group(2);
            from = m.end();
        }
        keep(name, text.substring(from));
    }

    private static boolean isThere() {
        return Files.exists(FILE);
    }

    private static void keep(String name, String words) {
        if (name != null) {
            String plain = words.replaceFirst("(?s)^\\s*`[^`]*`:", "").replaceAll("\\s+", " ").trim();
            SECTIONS.put(name, plain);
            SAID.put(name, new boolean[plain.length()]);
        }
    }

    /** From here on the answers belong to these words of a promise (its number) or of the Terms (I, II). */
    static void says(String section, String words) {
        Check.about(section + ": " + words);
        if (!isThere()) {
            return;
        }
        int at = SECTIONS.getOrDefault(section, "").indexOf(words);
        Check.due("the document says so", at >= 0, true);
        for (int i = 0; at >= 0 && i < words.length(); i++) {
            SAID.get(section)[at + i] = true;
        }
    }

    static void says(int promise, String words) {
        says(String.valueOf(promise), words);
    }

    /** All words of the Terms and of the promises have been said. */
    static void end() {
        Check.about("the document");
        Check.due("Terms and promises", SECTIONS.size(), isThere() ? 33 : 0);
        for (Map.Entry<String, String> section : SECTIONS.entrySet()) {
            StringBuilder rest = new StringBuilder();
            for (int i = 0; i < section.getValue().length(); i++) {
                rest.append(SAID.get(section.getKey())[i] ? '|' : section.getValue().charAt(i));
            }
            String unsaid = rest.toString().replaceAll("[| ]+", " ").trim();
            Check.due("said by no test, of " + section.getKey() + ": '" + unsaid + "',", unsaid.length(), 0);
        }
    }
}
