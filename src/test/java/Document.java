import java.io.IOException;
import java.nio.charset.StandardCharsets;
import java.nio.file.Files;
import java.nio.file.Path;
import java.util.regex.Matcher;
import java.util.regex.Pattern;

/** The text of the document, so that a test can name the sentence that it tests. */
final class Document {
    private static final Path FILE = Path.of("..", "shared", "DOC.md");
    private static final String TEXT = read();

    private Document() {
    }

    /** Whether the words stand in the section of a promise or, for 0, before the first one. */
    static boolean says(int promise, String words) {
        return section(promise).contains(words);
    }

    private static String section(int promise) {
        String begin = promise == 0 ? "^" : "## Promise " + promise + ":";
        Matcher matcher = Pattern.compile(begin + ".*?(?=## Promise \\d+:|## Not promised|$)").matcher(TEXT);
        return matcher.find() ? matcher.group() : "";
    }

    private static String read() {
        try {
            return Files.readString(FILE, StandardCharsets.UTF_8).replaceAll("\\s+", " ");
        } catch (IOException e) {
            System.out.println("the document cannot be read: " + e);
            return "";
        }
    }
}
