import java.io.IOException;
import java.nio.file.Files;
import java.nio.file.Path;
import java.util.ArrayList;
import java.util.HashSet;
import java.util.List;
import java.util.Set;
import java.util.regex.Matcher;
import java.util.regex.Pattern;

/** The program's lines without comments, and its methods, as far as its layout shows them. */
final class Source {
    private static final Pattern HEAD =
        Pattern.compile("(?m)^( {4}| {8})(?:(?:public|private|static|final) )*[\\w\\[\\]]+ (\\w+)\\(([^()]*)\\) \\{$");
    private static final Pattern CALLED = Pattern.compile("\\b(\\w+)\\(");

    static final class Method {
        final String name;
        final String parameters;
        final String body;
        /** Classes may have methods of the same name: the depth of each of them counts for all. */
        final Set<String> calls = new HashSet<>();

        Method(String name, String parameters, String body) {
            this.name = name;
            this.parameters = parameters;
            this.body = body;
            Matcher called = CALLED.matcher(body);
            while (called.find()) {
                calls.add(called.group(1));
            }
        }

        int lines() {
            return body.split("\n").length;
        }
    }

    final String code;
    final List<Method> methods = new ArrayList<>();

    Source(Path file) throws IOException {
        code = Files.readString(file).replaceAll("(?s)/\\*.*?\\*/", "").replaceAll("//[^\n]*", "");
        Matcher head = HEAD.matcher(code);
        while (head.find()) {
            int end = code.indexOf("\n" + head.group(1) + "}\n", head.end() - 1);
            methods.add(new Method(head.group(2), head.group(3), code.substring(head.end(), end)));
        }
    }

    /** The methods' bodies left out: fields and heads. */
    String outsideOfMethods() {
        String left = code;
        for (Method m : methods) {
            left = left.replace(m.body, "");
        }
        return left;
    }

    /** How many calls stand open at once from a call of the name; above the limit when it calls itself. */
    int depth(String name, int limit) {
        int deepest = 0;
        for (Method m : methods) {
            if (m.name.equals(name)) {
                deepest = Math.max(deepest, 1);
                for (String called : limit > 0 ? m.calls : Set.<String>of()) {
                    deepest = Math.max(deepest, 1 + depth(called, limit - 1));
                }
            }
        }
        return deepest;
    }
}
