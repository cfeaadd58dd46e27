import java.io.File;
import java.util.Arrays;

/** No sentence of the document is without a test that is named by it, but for what is not promised. */
public final class EverySentenceTest {
    private static final int PROMISES = 19;

    public static void main(String[] args) throws ReflectiveOperationException {
        if (!Doc.isThere()) {
            System.out.println("the document is not there: nothing to look up");
            return;
        }
        Sentences.onlyNote();
        String[] files = new File("src/test/java").list((dir, name) -> name.matches("(WhatItIs|Face|Terms|Promise).*Test\\.java"));
        Arrays.sort(files);
        for (String file : files) {
            Class.forName(file.replace(".java", "")).getDeclaredMethod("all").invoke(null);
        }
        isWholly("What it is");
        isWholly("The public face");
        isWholly("Terms");
        for (int promise = 1; promise <= PROMISES; promise++) {
            isWholly("Promise " + promise);
        }
        Due.about("the document");
        Due.due("promises beyond the last one that is tested", beyond(), 0);
        Due.end();
    }

    private static void isWholly(String section) {
        Due.about(section);
        Due.due("is it in the document", Doc.names().contains(section) ? 1 : 0, 1);
        Due.dueAll("what is said there without a test", Doc.without(section, Sentences.of(section)), "");
    }

    private static long beyond() {
        return Doc.names().stream().filter(name -> name.startsWith("Promise ")).count() - PROMISES;
    }
}
