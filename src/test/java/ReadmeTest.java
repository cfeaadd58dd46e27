import java.io.IOException;
import java.lang.reflect.Method;
import java.lang.reflect.Modifier;
import java.nio.file.Files;
import java.nio.file.Path;
import java.util.ArrayList;
import java.util.List;
import java.util.Set;
import java.util.TreeSet;
import java.util.regex.Matcher;
import java.util.regex.Pattern;

/** What README.md shows as a use of the class is so, and what it quotes is in the document. */
public final class ReadmeTest {
    private static final Path README = Path.of("README.md");
    private static final Pattern BLOCK = Pattern.compile("(?ms)^```java\n(.*?)^```$");
    private static final Pattern MAKING =
        Pattern.compile("OutsideAsks x = new OutsideAsks\\((-?\\d+), (-?\\d+)\\);( +// .*)?");
    private static final Pattern AGAIN =
        Pattern.compile("for \\(int i = 0; i < (\\d+); i\\+\\+\\) \\{ x\\.(\\w+)\\((.*)\\); \\}");
    private static final Pattern CALL = Pattern.compile("x\\.(\\w+)\\((.*?)\\); +// (-?\\d+|NONE|FULL)(: .*)?");
    private static final Pattern SETTING =
        Pattern.compile("(?m)^\\| (\\d)(?: \\.\\. (\\d))? \\| .*? \\| (\\d+)(?: \\.\\.|,) (\\d+) \\| (\\d+) \\|$");
    private static final Pattern QUOTE = Pattern.compile("(?m)^ *> (.*)$");
    private static final int PROMISES = 19;
    private static final int SETTINGS = 8;

    private static final Set<String> shown = new TreeSet<>();

    public static void main(String[] args) throws IOException, ReflectiveOperationException {
        String readme = Files.readString(README);
        callsAnswerAsShown(readme);
        everyCallIsShown();
        settingsAreAsShown(readme);
        if (Doc.isThere()) {
            quotesAreInTheDocument(readme);
            everyPromiseIsQuoted(readme);
        }
        testsAreThere(readme);
        Due.end();
    }

    private static void callsAnswerAsShown(String readme) throws ReflectiveOperationException {
        Matcher block = BLOCK.matcher(readme);
        int blocks = 0;
        while (block.find()) {
            blocks++;
            Due.about("README.md, example " + blocks);
            run(block.group(1).split("\n"));
        }
        Due.about("README.md");
        Due.due("is there an example for each promise", blocks >= PROMISES ? 1 : 0, 1);
    }

    private static void run(String[] lines) throws ReflectiveOperationException {
        Matcher making = MAKING.matcher(lines[0]);
        if (!making.matches()) {
            Due.dueAll("its first line", lines[0], "one that makes an object");
            return;
        }
        OutsideAsks x = new OutsideAsks(Integer.parseInt(making.group(1)), Integer.parseInt(making.group(2)));
        int calls = 0;
        for (int i = 1; i < lines.length; i++) {
            calls += runLine(x, lines[i]);
        }
        Due.due("calls beyond those that an object is used for", Math.max(0, calls - Run.MOST_CALLS), 0);
    }

    /** How many calls it made. */
    private static int runLine(OutsideAsks x, String line) throws ReflectiveOperationException {
        Matcher call = CALL.matcher(line);
        if (call.matches()) {
            Due.due(line, call(x, call.group(1), call.group(2)), number(call.group(3)));
            shown.add(call.group(1));
            return 1;
        }
        Matcher again = AGAIN.matcher(line);
        if (!again.matches()) {
            Due.dueAll("its line", line, "a call with its answer");
            return 0;
        }
        int times = Integer.parseInt(again.group(1));
        for (int i = 0; i < times; i++) {
            long answer = call(x, again.group(2), again.group(3));
            Due.due(line + " is refused", answer < 0 ? 1 : 0, 0);
        }
        return times;
    }

    private static long number(String text) {
        if (text.equals("NONE")) {
            return OutsideAsks.NONE;
        }
        return text.equals("FULL") ? OutsideAsks.FULL : Long.parseLong(text);
    }

    private static long call(OutsideAsks x, String name, String arguments) throws ReflectiveOperationException {
        for (Method m : OutsideAsks.class.getDeclaredMethods()) {
            if (Modifier.isPublic(m.getModifiers()) && m.getName().equals(name)) {
                return ((Number) m.invoke(x, values(m.getParameterTypes(), arguments))).longValue();
            }
        }
        throw new NoSuchMethodException(name);
    }

    /** As Java takes them: a long is written with an L, an int without. */
    private static Object[] values(Class<?>[] types, String arguments) {
        String[] texts = arguments.isEmpty() ? new String[0] : arguments.split(", ");
        Object[] values = new Object[texts.length];
        for (int i = 0; i < texts.length; i++) {
            boolean isLong = texts[i].endsWith("L");
            Due.due("is " + texts[i] + " of the right type", i < types.length && isLong == (types[i] == long.class) ? 1 : 0, 1);
            values[i] = isLong ? (Object) Long.valueOf(texts[i].replace("L", "")) : (Object) Integer.valueOf(texts[i]);
        }
        return values;
    }

    private static void everyCallIsShown() {
        Set<String> face = new TreeSet<>();
        for (Method m : OutsideAsks.class.getDeclaredMethods()) {
            if (Modifier.isPublic(m.getModifiers())) {
                face.add(m.getName());
            }
        }
        Due.dueAll("calls of the face that examples show", shown.toString(), face.toString());
    }

    private static void settingsAreAsShown(String readme) {
        Matcher row = SETTING.matcher(readme);
        int settings = 0;
        while (row.find()) {
            int last = Integer.parseInt(row.group(row.group(2) == null ? 1 : 2));
            for (int what = Integer.parseInt(row.group(1)); what <= last; what++) {
                settingIs(what, Integer.parseInt(row.group(3)), Integer.parseInt(row.group(4)), Integer.parseInt(row.group(5)));
                settings++;
            }
        }
        Due.due("settings in the table", settings, SETTINGS);
    }

    private static void settingIs(int what, int least, int greatest, int first) {
        OutsideAsks x = new OutsideAsks(1, 1);
        Due.due("setting " + what + " below its least", x.set(what, least - 1), OutsideAsks.NONE);
        Due.due("setting " + what + " above its greatest", x.set(what, greatest + 1), OutsideAsks.NONE);
        Due.due("setting " + what + " at first", x.set(what, least), first);
        Due.due("setting " + what + " at its least", x.set(what, greatest), least);
        Due.due("setting " + what + " at its greatest", x.set(what, first), greatest);
    }

    private static void quotesAreInTheDocument(String readme) {
        Matcher quote = QUOTE.matcher(readme);
        while (quote.find()) {
            long places = 0;
            for (String section : Doc.names()) {
                places += Doc.says(section, quote.group(1)) > 0 ? 1 : 0;
            }
            Due.due("is this in the document: " + quote.group(1), places > 0 ? 1 : 0, 1);
        }
    }

    private static void everyPromiseIsQuoted(String readme) {
        List<String> quotes = new ArrayList<>();
        Matcher quote = QUOTE.matcher(readme);
        while (quote.find()) {
            quotes.add(quote.group(1));
        }
        for (int promise = 1; promise <= PROMISES; promise++) {
            String section = "Promise " + promise;
            Due.dueAll("words of " + section + " that are not quoted", Doc.without(section, quotes), "");
            Due.due("headings of " + section, readme.split("### `" + Pattern.quote(Doc.signature(section)) + "`\n").length, 2);
        }
    }

    private static void testsAreThere(String readme) {
        Matcher name = Pattern.compile("\\b([A-Z]\\w+Test)\\b").matcher(readme);
        while (name.find()) {
            boolean is = Files.exists(Path.of("src", "test", "java", name.group(1) + ".java"));
            Due.due("is there the test " + name.group(1), is ? 1 : 0, 1);
        }
    }
}
