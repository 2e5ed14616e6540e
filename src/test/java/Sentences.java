import java.io.IOException;
import java.nio.charset.StandardCharsets;
import java.nio.file.Files;
import java.nio.file.Path;
import java.util.LinkedHashMap;
import java.util.Map;

/**
 * Ties each test to the sentence of the document that it is of. At the end, each sentence of the
 * Terms and of the promises must have been quoted by a test, so that none can be forgotten.
 */
final class Sentences {
    private static final Path DOCUMENT = Path.of("..", "shared", "DOC.md");
    private static final Map<String, String> PARTS = new LinkedHashMap<>();
    private static final Map<String, boolean[]> QUOTED = new LinkedHashMap<>();

    private Sentences() {
    }

    /** The checks from here on are of these words, which stand once in that part of the document. */
    static void test(String part, String words) {
        Check.about(part + " '" + words + "': ");
        if (PARTS.isEmpty() && Files.exists(DOCUMENT)) {
            readDocument();
        }
        if (PARTS.isEmpty()) {
            return;
        }
        String text = PARTS.getOrDefault(part, "");
        int at = text.indexOf(words);
        Check.due("these words stand in the document", at >= 0 ? 1 : 0, 1);
        Check.due("they stand there once", text.indexOf(words, at + 1) < 0 ? 1 : 0, 1);
        for (int i = 0; at >= 0 && i < words.length(); i++) {
            QUOTED.get(part)[at + i] = true;
        }
    }

    static void end() {
        Check.about("");
        if (PARTS.isEmpty()) {
            System.out.println("no " + DOCUMENT + " here: the words of the tests were not looked for in it");
        }
        for (Map.Entry<String, String> part : PARTS.entrySet()) {
            boolean wanted = part.getKey().equals("Terms") || part.getKey().startsWith("Promise");
            if (wanted) {
                Check.due(part.getKey() + " has no test for: " + unquoted(part.getKey()), unquoted(part.getKey()).length(), 0);
            }
        }
    }

    private static String unquoted(String part) {
        StringBuilder left = new StringBuilder();
        String text = PARTS.get(part);
        for (int i = 0; i < text.length(); i++) {
            if (!QUOTED.get(part)[i] && text.charAt(i) != ' ') {
                left.append(text.charAt(i));
            }
        }
        return left.toString();
    }

    private static void readDocument() {
        String part = "";
        try {
            for (String line : Files.readAllLines(DOCUMENT, StandardCharsets.ISO_8859_1)) {
                if (line.startsWith("#")) {
                    part = line.replaceAll("^#+ ", "").replaceAll(":.*", "");
                    PARTS.put(part, "");
                } else if (!line.startsWith("```") && !line.startsWith("Ahead of the calls")) {
                    String words = line.replaceAll("^`[^`]*`: ", "");
                    PARTS.put(part, (PARTS.getOrDefault(part, "") + " " + words).replaceAll("\\s+", " "));
                }
            }
        } catch (IOException none) {
            Check.due(DOCUMENT + " can be read", 0, 1);
        }
        for (Map.Entry<String, String> each : PARTS.entrySet()) {
            QUOTED.put(each.getKey(), new boolean[each.getValue().length()]);
        }
    }
}
