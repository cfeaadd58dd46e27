import java.lang.reflect.Constructor;
import java.lang.reflect.Field;
import java.lang.reflect.Method;
import java.lang.reflect.Modifier;
import java.util.Set;
import java.util.TreeSet;

/** The public face is the document's, and nothing else can be seen from outside. */
public final class FaceTest {
    private static final String HERE = "The public face";
    private static final String[] MEMBERS = {
        "public OutsideAsks(int most, int order);",
        "public int set(int what, int v);",
        "public int row(long key, long value);",
        "public int mark();",
        "public int tick(int n);",
        "public int serve(int k);",
        "public int refuse(int k, int cause);",
        "public int arrive(int k);",
        "public int lose(int line, int k);",
        "public int twice(int line, int k);",
        "public int under(int line, int k);",
        "public int out(int k, int what);",
        "public long value(int item);",
        "public int item(int item, int what);",
        "public int count(long key);",
        "public int kept(long key);",
        "public int save();",
        "public int restart();",
        "public int told(int what);",
    };

    public static void main(String[] args) {
        all();
        Due.end();
    }

    static void all() {
        Sentences.test(HERE, "public final class OutsideAsks {", FaceTest::theClass);
        Sentences.test(HERE, "public static final int NONE = -1, FULL = -4;", FaceTest::theConstants);
        for (String member : MEMBERS) {
            Sentences.test(HERE, member, () -> isThere(member));
        }
        Sentences.test(HERE, "public int told(int what); }", FaceTest::nothingElseIsSeen);
    }

    private static void theClass() {
        Due.due("modifiers", OutsideAsks.class.getModifiers(), Modifier.PUBLIC | Modifier.FINAL);
        Due.dueAll("package", OutsideAsks.class.getPackageName(), "");
        Due.dueAll("class above it", OutsideAsks.class.getSuperclass().getName(), "java.lang.Object");
        Due.due("interfaces", OutsideAsks.class.getInterfaces().length, 0);
    }

    private static void theConstants() {
        Due.due("NONE", OutsideAsks.NONE, -1);
        Due.due("FULL", OutsideAsks.FULL, -4);
        Set<String> seen = new TreeSet<>();
        for (Field f : OutsideAsks.class.getDeclaredFields()) {
            if (!Modifier.isPrivate(f.getModifiers())) {
                seen.add(Modifier.toString(f.getModifiers()) + " " + f.getType() + " " + f.getName());
            }
        }
        Due.dueAll("fields", seen.toString(), "[public static final int FULL, public static final int NONE]");
    }

    /** As reflection tells them: without the parameters' names. */
    private static String withoutNames(String member) {
        return member.replaceAll("(int|long) \\w+([,)])", "$1$2").replace(";", "");
    }

    private static Set<String> seen() {
        Set<String> seen = new TreeSet<>();
        for (Constructor<?> c : OutsideAsks.class.getDeclaredConstructors()) {
            if (!Modifier.isPrivate(c.getModifiers())) {
                seen.add(Modifier.toString(c.getModifiers()) + " OutsideAsks(" + names(c.getParameterTypes()) + ")"
                    + thrown(c.getExceptionTypes()));
            }
        }
        for (Method m : OutsideAsks.class.getDeclaredMethods()) {
            if (!Modifier.isPrivate(m.getModifiers())) {
                seen.add(Modifier.toString(m.getModifiers()) + " " + m.getReturnType() + " " + m.getName()
                    + "(" + names(m.getParameterTypes()) + ")" + thrown(m.getExceptionTypes()));
            }
        }
        return seen;
    }

    private static String names(Class<?>[] types) {
        StringBuilder all = new StringBuilder();
        for (Class<?> type : types) {
            all.append(all.length() == 0 ? "" : ", ").append(type);
        }
        return all.toString();
    }

    private static String thrown(Class<?>[] types) {
        return types.length == 0 ? "" : " throws " + names(types);
    }

    private static void isThere(String member) {
        Due.due("is it there", seen().contains(withoutNames(member)) ? 1 : 0, 1);
    }

    private static void nothingElseIsSeen() {
        Set<String> due = new TreeSet<>();
        for (String member : MEMBERS) {
            due.add(withoutNames(member));
        }
        Due.dueAll("all that is seen", seen().toString(), due.toString());
    }
}
