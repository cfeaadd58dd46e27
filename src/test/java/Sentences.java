import java.util.ArrayList;
import java.util.LinkedHashMap;
import java.util.List;
import java.util.Map;

/** Tests that are named by the document's section and sentence that they are for. */
final class Sentences {
    private static final Map<String, List<String>> TESTED = new LinkedHashMap<>();
    private static boolean onlyNoted = false;

    private Sentences() {
    }

    /** One test: it fails, too, if the section does not say the sentence, once. */
    static void test(String section, String sentence, Runnable test) {
        TESTED.computeIfAbsent(section, s -> new ArrayList<>()).add(sentence);
        if (onlyNoted) {
            return;
        }
        Due.about(section + ", \"" + sentence + "\"");
        if (Doc.isThere()) {
            Due.due("the document: how often it says so", Doc.says(section, sentence), 1);
        }
        test.run();
    }

    /** From now on tests are not run. */
    static void onlyNote() {
        onlyNoted = true;
    }

    static List<String> of(String section) {
        return TESTED.getOrDefault(section, List.of());
    }
}
