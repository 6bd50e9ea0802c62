import java.io.IOException;
import java.lang.reflect.Method;
import java.lang.reflect.Modifier;
import java.nio.file.DirectoryStream;
import java.nio.file.Files;
import java.nio.file.Path;
import java.util.regex.Matcher;
import java.util.regex.Pattern;

/** What README.md says of calls is so, and it names every call, every test and how they are run. */
public final class ReadmeTest {
    private static final Check CHECK = new Check("ReadmeTest");
    private static final Path README = Path.of("README.md");
    private static final Path TESTS = Path.of("src/test/java");
    private static final Pattern CALL = Pattern.compile("x\\.(\\w+\\([^)]*\\)); +// (throws \\w+|[^ :]+)(: .*)?");

    public static void main(String[] args) throws IOException, IllegalAccessException {
        String text = Files.readString(README);
        answers(text);
        everyCall(text);
        everyTest(text);
        CHECK.end();
    }

    private static void answers(String text) throws IllegalAccessException {
        Matcher block = Pattern.compile("```java\n(.*?)```", Pattern.DOTALL).matcher(text);
        int blocks = 0;
        while (block.find()) {
            blocks++;
            String[] lines = block.group(1).split("\n");
            CHECK.same("the first line of block " + blocks, lines[0], "TurnEstimator x = new TurnEstimator();");
            TurnEstimator x = new TurnEstimator();
            for (int k = 1; k < lines.length; k++) {
                Matcher call = CALL.matcher(lines[k]);
                boolean written = call.matches();
                CHECK.same("\"" + lines[k] + "\" is a call with its answer", written, true);
                if (written) {
                    CHECK.same(call.group(1), Calls.answer(x, call.group(1)), call.group(2));
                }
            }
        }
        CHECK.same("there are blocks of calls", blocks > 0, true);
    }

    private static void everyCall(String text) {
        for (Method method : TurnEstimator.class.getDeclaredMethods()) {
            if (Modifier.isPublic(method.getModifiers())) {
                boolean row = Pattern.compile("\\| `" + method.getName() + "\\([^)]*\\)` \\|").matcher(text).find();
                CHECK.same("it has a row for " + method.getName(), row, true);
            }
        }
    }

    private static void everyTest(String text) throws IOException {
        CHECK.same("it tells how all tests are run", text.contains("\n    .ci/run\n"), true);
        try (DirectoryStream<Path> files = Files.newDirectoryStream(TESTS, "*Test.java")) {
            for (Path file : files) {
                String name = file.getFileName().toString().replace(".java", "");
                CHECK.same("it names " + name, text.contains("`" + name + "`"), true);
            }
        }
    }
}
