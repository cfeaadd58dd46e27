import java.io.File;
import java.io.IOException;
import java.lang.reflect.Field;
import java.lang.reflect.Method;
import java.lang.reflect.Modifier;
import java.nio.file.Path;
import java.util.ArrayList;
import java.util.HashSet;
import java.util.List;
import java.util.Set;
import java.util.regex.Matcher;
import java.util.regex.Pattern;

/** Rules of LANGUAGE.md, by their numbers, as far as they can be seen from words and from the classes' members. */
public final class LanguageTest {
    private static final Path DIRECTORY = Path.of("src", "main", "java");
    private static final String IMPORTS = "import java\\.util\\.(ArrayList|List|Arrays|Iterator|NoSuchElementException);";
    private static final String LIBRARY = "\\b((Math|Integer|Long)\\.\\w+|System\\.arraycopy|Arrays\\.(copyOf|copyOfRange|fill)"
        + "|List\\.of)\\(";
    private static final int MOST_LINES = 60, MOST_PARAMETERS = 7, MOST_CLASSES = 12, MOST_FIELDS = 20, DEEPEST = 8;

    private static final Pattern INDEX = Pattern.compile("\\w\\[([^\\]]+)\\]");
    private static final Pattern COPY = Pattern.compile("arraycopy\\((.*)\\);");
    private static final Pattern VARIABLE = Pattern.compile("\\b([a-z]\\w*)\\b(?!\\.)");
    private static final Pattern LOOP = Pattern.compile("(?m)^( *)(for|while|do)\\b(.*)$");

    private static Source source;

    public static void main(String[] args) throws IOException {
        Due.about("LANGUAGE.md");
        Due.dueAll("one file", String.join(" ", new File(DIRECTORY.toString()).list()), "OutsideAsks.java");
        source = new Source(DIRECTORY.resolve("OutsideAsks.java"));
        words(source.code);
        List<Class<?>> classes = new ArrayList<>(List.of(OutsideAsks.class.getDeclaredClasses()));
        for (Class<?> inside : classes) {
            boolean fits = Modifier.isStatic(inside.getModifiers())
                && (inside.getModifiers() & (Modifier.PUBLIC | Modifier.PROTECTED)) == 0;
            Due.due("rule 1: is " + inside.getSimpleName() + " static, and not seen from outside", fits ? 1 : 0, 1);
        }
        classes.add(OutsideAsks.class);
        atMost("rule 11: classes", classes.size(), MOST_CLASSES);
        classes.forEach(LanguageTest::members);
        namesOfTheFaceAreItsOwn();
        allMethodsAreSeen(classes);
        source.methods.forEach(LanguageTest::method);
        Due.end();
    }

    private static void words(String code) {
        none("no package line", code, "(?m)^package ");
        none("rule 2: method references, lambdas", code, "::|->");
        none("rule 3: numbers with a point", code, "\\b(double|float|Double|Float)\\b");
        none("rule 4: other imports", code.replaceAll(IMPORTS, ""), "(?m)^import ");
        none("rule 4: functions whose name ends in Exact", code, "Exact\\(");
        none("rule 4: another library", code.replaceAll(LIBRARY, ""), "(?<!new )\\b[A-Z]\\w*[a-z]\\w*\\.\\w+");
        none("rule 5: a static block", code, "\\bstatic \\{");
        none("rule 6: the document names no exception", code, "\\b(throw|throws|try|catch)\\b");
        none("rule 6", code, "\\b(finally|synchronized|assert|equals|hashCode|toString|getMessage|printStackTrace)\\b");
        none("rule 7: a divisor", code, " [/%]=? ");
        none("rule 7: a cast", code, "\\([A-Za-z]\\w*(\\[\\])?\\) ?\\w");
        none("rule 10: texts", code, "\"");
        none("rule 13", code, "\\b(Random|random|nanoTime|currentTimeMillis|Thread|getenv|getProperty|File)\\b");
    }

    private static void none(String rule, String code, String pattern) {
        Matcher found = Pattern.compile(pattern).matcher(code);
        Due.dueAll(rule, found.find() ? found.group() : "", "");
    }

    private static void atMost(String what, int n, int most) {
        Due.due(what + " beyond " + most, Math.max(0, n - most), 0);
    }

    private static void members(Class<?> c) {
        int own = 0;
        for (Field f : c.getDeclaredFields()) {
            boolean isStatic = Modifier.isStatic(f.getModifiers());
            own += isStatic ? 0 : 1;
            Due.due("rule 3: does " + f.getName() + " have a type of the rule", fits(f.getType()) ? 1 : 0, 1);
            boolean changes = isStatic && !Modifier.isFinal(f.getModifiers());
            Due.due("rule 5: can static " + f.getName() + " change", changes ? 1 : 0, 0);
        }
        atMost("rule 11: fields of " + c.getSimpleName(), own, MOST_FIELDS);
        for (Method m : c.getDeclaredMethods()) {
            atMost("rule 11: parameters of " + m.getName(), m.getParameterCount(), MOST_PARAMETERS);
        }
    }

    private static boolean fits(Class<?> type) {
        Class<?> part = type.isArray() ? type.getComponentType() : type;
        return part.isPrimitive() || part.getName().startsWith("OutsideAsks$");
    }

    private static void namesOfTheFaceAreItsOwn() {
        Set<String> face = new HashSet<>();
        for (Method m : OutsideAsks.class.getDeclaredMethods()) {
            if (Modifier.isPublic(m.getModifiers())) {
                face.add(m.getName());
            }
        }
        for (Method m : OutsideAsks.class.getDeclaredMethods()) {
            boolean both = Modifier.isPrivate(m.getModifiers()) && face.contains(m.getName());
            Due.due("rule 1: does private " + m.getName() + " bear a name of the face", both ? 1 : 0, 0);
        }
    }

    /** What follows looks at methods as the layout shows them: none may hide from it. */
    private static void allMethodsAreSeen(List<Class<?>> classes) {
        int constructors = 1;
        int there = constructors;
        for (Class<?> c : classes) {
            there += c.getDeclaredMethods().length;
        }
        Due.due("methods that are seen", source.methods.size(), there);
    }

    private static void method(Source.Method m) {
        atMost("rule 11: lines of " + m.name, m.lines(), MOST_LINES);
        atMost("rules 8 and 11: calls that stand open at once in " + m.name, source.depth(m.name, 2 * DEEPEST), DEEPEST);
        none("rule 12: what " + m.name + " makes at each call", m.body, "\\bnew\\b|\\bclone\\(");
        indexesAreLookedAt(m, INDEX.matcher(m.body));
        indexesAreLookedAt(m, COPY.matcher(m.body));
        Matcher loop = LOOP.matcher(m.body);
        while (loop.find()) {
            int end = m.body.indexOf("\n" + loop.group(1) + "}", loop.end());
            loopEnds(m, loop.group(2) + loop.group(3), m.body.substring(loop.end(), Math.max(loop.end(), end)));
        }
    }

    /** Rule 7: each variable in an index is compared, or given to a test, ahead of its use. */
    private static void indexesAreLookedAt(Source.Method m, Matcher use) {
        while (use.find()) {
            String ahead = m.body.substring(0, use.start());
            Matcher variable = VARIABLE.matcher(use.group(1));
            while (variable.find()) {
                String v = variable.group(1);
                boolean isNumber = m.parameters.contains("int " + v) || ahead.contains("int " + v + " = ")
                    || v.equals("size") || v.equals("items");
                String look = "\\b" + v + " (<|>|<=|>=|==|!=) |\\b(has|hasItem|mayHave|isCause)\\(" + v + "\\)"
                    + "|int " + v + " = (0|size - k - 1);";
                boolean looked = Pattern.compile(look).matcher(ahead).find();
                Due.due("rule 7: does " + m.name + " look at " + v + " ahead of " + use.group(), !isNumber || looked ? 1 : 0, 1);
            }
        }
    }

    /** Rule 9: a counter against a bound, which the loop's body leaves alone (for) or counts up (while). */
    private static void loopEnds(Source.Method m, String head, String body) {
        Matcher counted = Pattern.compile("for \\(int (\\w+) = [^;]*; \\1 < [^;]*; \\1\\+\\+\\) \\{").matcher(head);
        if (counted.matches()) {
            none("rule 9: what " + m.name + " does to its counter", body, "\\b" + counted.group(1) + "(\\+\\+|--| [-+]?= )");
            return;
        }
        Matcher counting = Pattern.compile("while \\((\\w+) < .*\\{").matcher(head);
        boolean ends = counting.matches() && body.contains(" " + counting.group(1) + "++;") && !body.contains("continue");
        Due.due("rule 9: can the end of this loop of " + m.name + " be seen: " + head, ends ? 1 : 0, 1);
    }
}
