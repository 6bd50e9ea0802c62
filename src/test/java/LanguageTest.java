import java.io.IOException;
import java.nio.file.Files;
import java.nio.file.Path;
import java.util.List;
import java.util.regex.Matcher;
import java.util.regex.Pattern;

/** Those rules of LANGUAGE.md that can be seen in the text of the class. */
public final class LanguageTest {
    private static final Check CHECK = new Check("LanguageTest");
    private static final Path SOURCE = Path.of("src/main/java/TurnEstimator.java");

    private static final String[] RULED_OUT = {
        "\\bpackage\\b", "\\bimport\\b", "->", "::", "\\btry\\b", "\\bcatch\\b", "\\bfinally\\b", "\\bsynchronized\\b",
        "\\bassert\\b", "\\bprotected\\b", "\\bstatic\\s+(final\\s+)?double\\s+\\w+\\s*=", "\\bfloat\\b", "Exact\\b",
        "\\bstatic\\s*\\{", "\\bThread\\b", "\\bRandom\\b", "\\bjava\\.", "\\bgetMessage\\b", "\\bNaN\\b",
    };

    public static void main(String[] args) throws IOException {
        List<String> lines = Files.readAllLines(SOURCE);
        StringBuilder text = new StringBuilder();
        for (String line : lines) {
            text.append(line.replaceAll("//.*|^\\s*/?\\*.*", "")).append('\n');
        }
        for (String pattern : RULED_OUT) {
            CHECK.same("ruled out: " + pattern, Pattern.compile(pattern).matcher(text).find(), false);
        }
        only("Math calls", text, "\\bMath\\.(\\w+)", "min|max|abs");
        only("System calls", text, "\\bSystem\\.(\\w+)", "arraycopy");
        only("exceptions", text, "\\bthrow new (\\w+)",
            "IllegalArgumentException|IndexOutOfBoundsException|IllegalStateException|ArithmeticException");
        lengthsOfMethods(lines);
        CHECK.end();
    }

    private static void only(String what, CharSequence text, String pattern, String allowed) {
        Matcher matcher = Pattern.compile(pattern).matcher(text);
        while (matcher.find()) {
            CHECK.same(what + ": " + matcher.group(1), matcher.group(1).matches(allowed), true);
        }
    }

    private static void lengthsOfMethods(List<String> lines) {
        int start = -1;
        for (int k = 0; k < lines.size(); k++) {
            String line = lines.get(k);
            if (line.matches("    (public|private) .*\\{")) {
                start = k;
            } else if (line.equals("    }")) {
                CHECK.same("the length of the method in line " + (start + 1), k - start <= 60, true);
            }
        }
        CHECK.same("methods were seen", start > 0, true);
    }
}
