import java.lang.reflect.Constructor;
import java.lang.reflect.Field;
import java.lang.reflect.Method;
import java.lang.reflect.Modifier;
import java.util.Set;
import java.util.TreeSet;

/** The public face is the document's, and nothing else can be seen from outside. */
public final class FaceTest {
    private static final Set<String> FACE = Set.of(
        "OutsideAsks(int,int)", "int NONE", "int FULL",
        "int set(int,int)", "int row(long,long)", "int mark()", "int tick(int)", "int serve(int)",
        "int refuse(int,int)", "int arrive(int)", "int lose(int,int)", "int twice(int,int)",
        "int under(int,int)", "int out(int,int)", "long value(int)", "int item(int,int)",
        "int count(long)", "int kept(long)", "int save()", "int restart()", "int told(int)");

    public static void main(String[] args) {
        Due.about("face");
        Set<String> seen = new TreeSet<>();
        for (Constructor<?> c : OutsideAsks.class.getDeclaredConstructors()) {
            if (!Modifier.isPrivate(c.getModifiers())) {
                seen.add("OutsideAsks(" + names(c.getParameterTypes()) + ")");
            }
        }
        for (Method m : OutsideAsks.class.getDeclaredMethods()) {
            if (!Modifier.isPrivate(m.getModifiers()) && !m.isSynthetic()) {
                seen.add(m.getReturnType() + " " + m.getName() + "(" + names(m.getParameterTypes()) + ")");
            }
        }
        for (Field f : OutsideAsks.class.getDeclaredFields()) {
            if (!Modifier.isPrivate(f.getModifiers()) && !f.isSynthetic()) {
                seen.add(f.getType() + " " + f.getName());
            }
        }
        Due.dueAll("the face", seen.toString(), new TreeSet<>(FACE).toString());
        Due.due("NONE", OutsideAsks.NONE, -1);
        Due.due("FULL", OutsideAsks.FULL, -4);
        Due.due("public final", OutsideAsks.class.getModifiers(), Modifier.PUBLIC | Modifier.FINAL);
        Due.end();
    }

    private static String names(Class<?>[] types) {
        StringBuilder all = new StringBuilder();
        for (Class<?> type : types) {
            all.append(all.length() == 0 ? "" : ",").append(type);
        }
        return all.toString();
    }
}
