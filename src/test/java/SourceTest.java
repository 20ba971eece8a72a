import java.io.IOException;
import java.nio.charset.StandardCharsets;
import java.nio.file.Files;
import java.nio.file.Path;
import java.util.List;
import java.util.regex.Matcher;
import java.util.regex.Pattern;

/** Rules of LANGUAGE.md that can be seen in the text of the class. */
public final class SourceTest {
    private static final Path SOURCE = Path.of("src/main/java/CnfCompiler.java");
    private static final String[] FORBIDDEN = {
        "Exact\\(", "->", "::", "\\bcatch\\b", "\\btry\\b", "\\bfinally\\b", "\\bthrow\\b", "\\bsynchronized\\b",
        "\\bassert\\b", "\\bstatic \\{", "\\bFloat\\.", "\\bDouble\\.", "\\bSystem\\.(?!arraycopy)", "\\bpackage\\b",
        "\\bprotected\\b", "\\bObject\\b", "\\bRandom\\b", "\\bThread\\b", "\\bvar\\b", "\\.hashCode\\(",
        "\\.toString\\(", "\\bArrays\\.(?!copyOf\\b|copyOfRange\\b|fill\\b)", "\\bMath\\.(?!max\\b|min\\b|abs\\b)",
        "[^\\x20-\\x7e\\n]"
    };
    private static final int LONGEST_METHOD = 60;

    private SourceTest() {
    }

    public static void main(String[] args) throws IOException {
        String source = Files.readString(SOURCE, StandardCharsets.ISO_8859_1);
        String code = withoutComments(source);
        for (String pattern : FORBIDDEN) {
            Matcher matcher = Pattern.compile(pattern).matcher(code);
            Check.that("the code has no " + pattern, !matcher.find());
        }
        imports(code);
        methodsAreShort(List.of(code.split("\n")));
        staticFields(code);
        Check.finish();
    }

    private static String withoutComments(String source) {
        return source.replaceAll("(?s)/\\*.*?\\*/", "").replaceAll("//[^\n]*", "");
    }

    private static void imports(String code) {
        Matcher matcher = Pattern.compile("(?m)^import (.*);$").matcher(code);
        while (matcher.find()) {
            Check.that("import " + matcher.group(1), matcher.group(1).equals("java.util.Arrays"));
        }
    }

    /** A method's body begins with a line that ends in ") {" and has at most two steps of indent. */
    private static void methodsAreShort(List<String> lines) {
        Pattern head = Pattern.compile("^( {4}| {8})(public|private) .*\\) \\{$");
        for (int i = 0; i < lines.size(); i++) {
            Matcher matcher = head.matcher(lines.get(i));
            if (matcher.matches()) {
                int end = i;
                while (end < lines.size() && !lines.get(end).equals(matcher.group(1) + "}")) {
                    end++;
                }
                Check.that(lines.get(i) + " is short", end - i < LONGEST_METHOD);
                long commas = lines.get(i).chars().filter(c -> c == ',').count();
                Check.that(lines.get(i) + " has at most seven parameters", commas < 7);
            }
        }
    }

    private static void staticFields(String code) {
        Matcher matcher = Pattern.compile("(?m)^ +(public|private) static (?!final )[^(]*[;=]").matcher(code);
        Check.that("static fields are final", !matcher.find());
    }
}
