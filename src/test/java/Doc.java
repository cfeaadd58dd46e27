import java.io.IOException;
import java.nio.file.Files;
import java.nio.file.Path;
import java.util.ArrayList;
import java.util.LinkedHashMap;
import java.util.List;
import java.util.Map;
import java.util.regex.Matcher;
import java.util.regex.Pattern;

/** The document's sections, so that the sentence that a test is named by can be found there. */
final class Doc {
    private static final Path PLACE = Path.of("..", "shared", "DOC.md");
    private static final Pattern SIGNATURE = Pattern.compile("`([^`]*)`:");
    /** Each section's text under its short name ("Terms", "Promise 5"), on one line. */
    private static final Map<String, String> SECTIONS = new LinkedHashMap<>();
    /** The call that each promise is of. */
    private static final Map<String, String> SIGNATURES = new LinkedHashMap<>();

    static {
        read();
    }

    private Doc() {
    }

    private static void read() {
        for (String part : text().split("(?m)^## ")) {
            String[] headAndText = part.split("\n", 2);
            if (headAndText.length == 2) {
                String name = headAndText[0].replaceAll(":.*", "").trim();
                SECTIONS.put(name, onOneLine(headAndText[1]));
                Matcher signature = SIGNATURE.matcher(headAndText[1]);
                SIGNATURES.put(name, signature.find() ? signature.group(1) : "");
            }
        }
    }

    private static String text() {
        try {
            return isThere() ? Files.readString(PLACE) : "";
        } catch (IOException e) {
            throw new IllegalStateException("the document cannot be read at " + PLACE, e);
        }
    }

    /** The program can be tested without it; then only the tests' names are not looked up. */
    static boolean isThere() {
        return Files.exists(PLACE);
    }

    /** Without the fences of its blocks and without the signature that a promise begins with. */
    private static String onOneLine(String text) {
        return text.replaceAll("```\\w*", " ").replaceAll(SIGNATURE.pattern(), " ").replaceAll("\\s+", " ").trim();
    }

    static List<String> names() {
        return new ArrayList<>(SECTIONS.keySet());
    }

    static String signature(String section) {
        return SIGNATURES.getOrDefault(section, "");
    }

    /** How often a section says a sentence. */
    static int says(String section, String sentence) {
        String text = SECTIONS.getOrDefault(section, "");
        int times = 0;
        for (int at = text.indexOf(sentence); at >= 0; at = text.indexOf(sentence, at + 1)) {
            times++;
        }
        return times;
    }

    /** What a section says beside the sentences. */
    static String without(String section, List<String> sentences) {
        StringBuilder left = new StringBuilder(SECTIONS.getOrDefault(section, ""));
        for (String sentence : sentences) {
            int at = SECTIONS.getOrDefault(section, "").indexOf(sentence);
            for (int i = at; at >= 0 && i < at + sentence.length(); i++) {
                left.setCharAt(i, ' ');
            }
        }
        return left.toString().replaceAll("\\s+", " ").trim();
    }
}
