import java.io.IOException;
import java.nio.charset.StandardCharsets;
import java.nio.file.Files;
import java.nio.file.Path;
import java.util.LinkedHashMap;
import java.util.Map;

/**
 * The document's own sentences. Each boundary test says whose it is by a quotation:
 * it must stand in the document, and no words of the terms or of a promise may be left without one.
 */
abstract class Sentences extends Checks {
    private static final Map<String, String> SECTIONS = new LinkedHashMap<>();
    private static final Map<String, boolean[]> QUOTED = new LinkedHashMap<>();

    static void readDocument(Path path) throws IOException {
        String text = Files.readString(path, StandardCharsets.UTF_8);
        for (String section : text.split("\n## ")) {
            int end = section.indexOf('\n');
            String title = section.substring(0, Math.max(end, 0)).replaceAll(":.*", "");
            String words = section.substring(Math.max(end, 0)).replaceAll("```\\w*|==== \\d\\.", " ");
            SECTIONS.put(title, words.replaceAll("\\s+", " ").trim());
            QUOTED.put(title, new boolean[SECTIONS.get(title).length()]);
        }
    }

    static void terms(String sentence) {
        of("Terms", sentence);
    }

    static void promise(int number, String sentence) {
        of("Promise " + number, sentence);
    }

    static void of(String section, String sentence) {
        String words = SECTIONS.getOrDefault(section, "");
        int at = words.indexOf(sentence);
        label("");
        is("whether " + section + " says " + sentence, at >= 0, true);
        for (; at >= 0; at = words.indexOf(sentence, at + 1)) {
            for (int i = at; i < at + sentence.length(); i++) {
                QUOTED.get(section)[i] = true;
            }
        }
        label(section + ", " + sentence + ": ");
    }

    static void everySentenceIsQuoted() {
        label("");
        int promises = 0;
        for (String section : SECTIONS.keySet()) {
            promises += section.startsWith("Promise ") ? 1 : 0;
            if (section.startsWith("Promise ") || section.equals("Terms")) {
                is("what no test names of " + section, notQuoted(section), "");
            }
        }
        is("promises", promises, 43);
    }

    /** What stands between ` and ` is code: the face, which LanguageTests holds. */
    private static String notQuoted(String section) {
        String words = SECTIONS.get(section);
        StringBuilder left = new StringBuilder();
        boolean code = false;
        for (int i = 0; i < words.length(); i++) {
            char c = words.charAt(i);
            code ^= c == '`';
            if (!code && !QUOTED.get(section)[i] && (Character.isLetterOrDigit(c) || c == ' ')) {
                left.append(c);
            }
        }
        return left.toString().trim();
    }
}
