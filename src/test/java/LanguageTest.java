import java.io.File;
import java.io.IOException;
import java.lang.reflect.Field;
import java.lang.reflect.Method;
import java.lang.reflect.Modifier;
import java.nio.file.Files;
import java.nio.file.Path;
import java.util.HashSet;
import java.util.Set;
import java.util.regex.Matcher;
import java.util.regex.Pattern;

/** Rules of LANGUAGE.md, by their numbers, as far as they can be seen from words and from the classes' members. */
public final class LanguageTest {
    private static final Path DIRECTORY = Path.of("src", "main", "java");
    private static final String IMPORTS = "import java\\.util\\.(ArrayList|List|Arrays|Iterator|NoSuchElementException);";

    public static void main(String[] args) throws IOException {
        Due.about("LANGUAGE.md");
        Due.dueAll("one file", String.join(" ", new File(DIRECTORY.toString()).list()), "OutsideAsks.java");
        words(withoutComments(Files.readString(DIRECTORY.resolve("OutsideAsks.java"))));
        members(OutsideAsks.class);
        for (Class<?> inside : OutsideAsks.class.getDeclaredClasses()) {
            members(inside);
        }
        namesOfTheFaceAreItsOwn();
        Due.end();
    }

    private static String withoutComments(String code) {
        return code.replaceAll("(?s)/\\*.*?\\*/", "").replaceAll("//[^\n]*", "");
    }

    private static void words(String code) {
        none("no package line", code, "(?m)^package ");
        none("rule 2: method references", code, "::");
        none("rule 4: other imports", code.replaceAll(IMPORTS, ""), "(?m)^import ");
        none("rule 4: functions whose name ends in Exact", code, "Exact\\(");
        none("rule 6", code, "\\b(finally|synchronized|assert|hashCode|getMessage|printStackTrace)\\b");
        none("rule 6: what the machine throws is caught", code,
            "catch \\((Exception|Throwable|\\w*(NullPointer|ArrayIndex|ClassCast|NegativeArray|ArrayStore)\\w*)\\b");
        none("rule 13", code, "\\b(Random|random|nanoTime|currentTimeMillis|Thread|getenv|File)\\b");
    }

    private static void none(String rule, String code, String pattern) {
        Matcher found = Pattern.compile(pattern).matcher(code);
        Due.dueAll(rule, found.find() ? found.group() : "", "");
    }

    private static void members(Class<?> c) {
        for (Field f : c.getDeclaredFields()) {
            boolean changes = Modifier.isStatic(f.getModifiers()) && !Modifier.isFinal(f.getModifiers());
            Due.due("rule 5: can static " + f.getName() + " change", changes ? 1 : 0, 0);
        }
        for (Method m : c.getDeclaredMethods()) {
            Due.due("rule 11: parameters beyond seven of " + m.getName(), Math.max(0, m.getParameterCount() - 7), 0);
        }
    }

    private static void namesOfTheFaceAreItsOwn() {
        Set<String> face = new HashSet<>();
        for (Method m : OutsideAsks.class.getDeclaredMethods()) {
            if (Modifier.isPublic(m.getModifiers())) {
                face.add(m.getName());
            }
        }
        for (Method m : OutsideAsks.class.getDeclaredMethods()) {
            boolean both = Modifier.isPrivate(m.getModifiers()) && face.contains(m.getName());
            Due.due("rule 1: does private " + m.getName() + " bear a name of the face", both ? 1 : 0, 0);
        }
    }
}
