import java.io.IOException;
import java.lang.reflect.Method;
import java.nio.charset.StandardCharsets;
import java.nio.file.Files;
import java.nio.file.Path;
import java.util.Set;
import java.util.TreeSet;
import java.util.regex.Matcher;
import java.util.regex.Pattern;

/** The calls that README.md shows answer what stands behind them, and every call of the face is shown. */
public final class ReadmeTest {
    private static final Path FILE = Path.of("README.md");
    private static final String NEW_OBJECT = "CnfCompiler x = new CnfCompiler();";
    private static final Pattern CALL = Pattern.compile("x\\.(\\w+)\\(([-0-9, ]*)\\); +// (-?[0-9]+)(:.*)?");
    private static final int METHODS_OF_THE_FACE = 26;

    private ReadmeTest() {
    }

    public static void main(String[] args) throws IOException, ReflectiveOperationException {
        Set<String> shown = new TreeSet<>();
        boolean inJava = false;
        CnfCompiler x = new CnfCompiler();
        for (String line : Files.readString(FILE, StandardCharsets.UTF_8).split("\n")) {
            if (line.startsWith("```")) {
                inJava = line.equals("```java");
            } else if (inJava && line.equals(NEW_OBJECT)) {
                x = new CnfCompiler();
            } else if (inJava) {
                tryCall(x, line, shown);
            }
        }
        Check.due("calls of the face that README.md shows, " + shown, shown.size(), METHODS_OF_THE_FACE);
        Check.finish();
    }

    private static void tryCall(CnfCompiler x, String line, Set<String> shown) throws ReflectiveOperationException {
        Matcher matcher = CALL.matcher(line);
        boolean isCall = matcher.matches();
        Check.that("a call and its answer: " + line, isCall);
        if (isCall) {
            shown.add(matcher.group(1));
            Check.due(line, answer(x, matcher.group(1), matcher.group(2)), Long.parseLong(matcher.group(3)));
        }
    }

    private static long answer(CnfCompiler x, String name, String list) throws ReflectiveOperationException {
        String[] numbers = list.isBlank() ? new String[0] : list.split(",");
        Class<?>[] types = new Class<?>[numbers.length];
        Object[] arguments = new Object[numbers.length];
        for (int i = 0; i < numbers.length; i++) {
            types[i] = int.class;
            arguments[i] = Integer.valueOf(numbers[i].trim());
        }
        Method method = CnfCompiler.class.getMethod(name, types);
        return ((Number) method.invoke(x, arguments)).longValue();
    }
}
