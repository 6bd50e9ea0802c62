import java.io.IOException;
import java.nio.file.Files;
import java.nio.file.Path;

/** The document, for tests that hold the class to its very words; it stands beside the checkout. */
final class Document {
    private static final Path PATH = Path.of("../shared/DOC.md");

    private Document() {
    }

    /** Whether the document is there; if it is not, the test says what it could not look at. */
    static boolean isHere(String test) {
        if (Files.exists(PATH)) {
            return true;
        }
        System.out.println(test + ": the document is not here, so its words were not looked at");
        return false;
    }

    /** What stands under a heading; an empty text if there is no such heading. */
    static String section(String heading) throws IOException {
        String document = Files.readString(PATH);
        int start = document.indexOf("\n" + heading);
        if (start < 0) {
            return "";
        }
        int body = document.indexOf('\n', start + 1);
        int end = document.indexOf("\n## ", body);
        return document.substring(body, end < 0 ? document.length() : end);
    }
}
