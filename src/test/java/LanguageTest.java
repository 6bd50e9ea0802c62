import java.io.IOException;
import java.nio.file.Files;
import java.nio.file.Path;
import java.util.ArrayList;
import java.util.LinkedHashMap;
import java.util.List;
import java.util.Map;
import java.util.regex.Matcher;
import java.util.regex.Pattern;

/** Those rules of LANGUAGE.md that can be seen in the text of the class. */
public final class LanguageTest {
    private static final Check CHECK = new Check("LanguageTest");
    private static final Path SOURCE = Path.of("src/main/java/TurnEstimator.java");

    /** A method's or the constructor's name, its parameters and its body. */
    private static final Pattern METHOD = Pattern.compile("\n    (?:public|private) (?:static )?(?:\\w+ )?(\\w+)"
        + "\\(([^)]*)\\)[^{;=]*\\{(.*?)\n    \\}", Pattern.DOTALL);

    private static final String[] RULED_OUT = {
        "\\bpackage\\b", "\\bimport\\b", "->", "::", "\\btry\\b", "\\bcatch\\b", "\\bfinally\\b", "\\bsynchronized\\b",
        "\\bassert\\b", "\\bprotected\\b", "\\bstatic\\s+(final\\s+)?double\\s+\\w+\\s*=", "\\bfloat\\b", "Exact\\b",
        "\\bstatic\\s*\\{", "\\bThread\\b", "\\bRandom\\b", "\\bjava\\.", "\\bgetMessage\\b", "\\bNaN\\b",
    };

    public static void main(String[] args) throws IOException {
        List<String> lines = Files.readAllLines(SOURCE);
        StringBuilder text = new StringBuilder();
        for (String line : lines) {
            text.append(line.replaceAll("//.*|^\\s*/?\\*.*", "")).append('\n');
        }
        for (String pattern : RULED_OUT) {
            CHECK.same("ruled out: " + pattern, Pattern.compile(pattern).matcher(text).find(), false);
        }
        only("Math calls", text, "\\bMath\\.(\\w+)", "min|max|abs");
        only("System calls", text, "\\bSystem\\.(\\w+)", "arraycopy");
        only("exceptions", text, "\\bthrow new (\\w+)",
            "IllegalArgumentException|IndexOutOfBoundsException|IllegalStateException|ArithmeticException");
        CHECK.same("signs 1 to 127 alone", Files.readString(SOURCE).matches("[\\x01-\\x7f]*"), true);
        lengthsOfMethods(lines);
        depthOfCalls(text.toString());
        CHECK.end();
    }

    private static void only(String what, CharSequence text, String pattern, String allowed) {
        Matcher matcher = Pattern.compile(pattern).matcher(text);
        while (matcher.find()) {
            CHECK.same(what + ": " + matcher.group(1), matcher.group(1).matches(allowed), true);
        }
    }

    private static void lengthsOfMethods(List<String> lines) {
        int start = -1;
        for (int k = 0; k < lines.size(); k++) {
            String line = lines.get(k);
            if (line.matches("    (public|private) .*\\{")) {
                start = k;
            } else if (line.equals("    }")) {
                CHECK.same("the length of the method in line " + (start + 1), k - start <= 60, true);
            }
        }
        CHECK.same("methods were seen", start > 0, true);
    }

    /** No method calls itself, be it through others; parameters are at most seven, and calls eight deep. */
    private static void depthOfCalls(String text) {
        Map<String, String> bodies = new LinkedHashMap<>();
        Matcher method = METHOD.matcher(text);
        while (method.find()) {
            CHECK.same("the parameters of " + method.group(1), method.group(2).split(",").length <= 7, true);
            CHECK.same("there is one method " + method.group(1), bodies.put(method.group(1), method.group(3)) == null, true);
        }
        CHECK.same("methods were found", bodies.size() > 24, true);
        for (String name : bodies.keySet()) {
            int depth = depth(name, bodies, List.of());
            CHECK.same("calls of " + name + " go " + depth + " deep", depth <= 8, true);
        }
    }

    /** How many methods stand open at once, those of open and below it; far too many for a recursion. */
    private static int depth(String name, Map<String, String> bodies, List<String> open) {
        if (open.contains(name)) {
            return 1000;
        }
        List<String> path = new ArrayList<>(open);
        path.add(name);
        int deepest = path.size();
        for (String called : bodies.keySet()) {
            if (Pattern.compile("(?<!new )\\b" + called + "\\(").matcher(bodies.get(name)).find()) {
                deepest = Math.max(deepest, depth(called, bodies, path));
            }
        }
        return deepest;
    }
}
