import java.lang.reflect.InvocationTargetException;
import java.lang.reflect.Method;
import java.lang.reflect.Modifier;
import java.util.ArrayList;
import java.util.Comparator;
import java.util.List;
import java.util.Random;

/** No call throws, whatever its arguments are and whatever was called before. */
public final class WildCallsTest {
    private static final int RUNS = 600;
    private static final int CALLS = 512;
    private static final int[] EDGES = {
        Integer.MIN_VALUE, Integer.MIN_VALUE + 1, -1025, -1024, -103, -102, -32, -17, -16, -12, -11, -10, -9, -6, -5,
        -4, -3, -2, -1, 0, 1, 2, 3, 4, 5, 6, 9, 10, 11, 12, 15, 16, 17, 31, 32, 45, 49, 50, 59, 63, 64, 127, 128, 150,
        151, 512, 1023, 1024, 1 << 20, 1 << 30, Integer.MAX_VALUE - 1, Integer.MAX_VALUE
    };

    private WildCallsTest() {
    }

    public static void main(String[] args) throws IllegalAccessException {
        List<Method> methods = face();
        Check.due("methods of the face", methods.size(), 26);
        for (int seed = 1; seed <= RUNS; seed++) {
            run(methods, new Random(seed), seed);
        }
        Check.finish();
    }

    private static List<Method> face() {
        List<Method> methods = new ArrayList<>();
        for (Method method : CnfCompiler.class.getDeclaredMethods()) {
            if (Modifier.isPublic(method.getModifiers())) {
                methods.add(method);
            }
        }
        // the machine lists them in no fixed order
        methods.sort(Comparator.comparing(Method::getName));
        return methods;
    }

    private static void run(List<Method> methods, Random random, int seed) throws IllegalAccessException {
        CnfCompiler x = new CnfCompiler();
        int widest = seed % 3 == 0 ? EDGES.length : 0;
        for (int i = 0; i < CALLS; i++) {
            Method method = methods.get(random.nextInt(methods.size()));
            Object[] arguments = new Object[method.getParameterCount()];
            for (int k = 0; k < arguments.length; k++) {
                arguments[k] = argument(random, widest);
            }
            try {
                method.invoke(x, arguments);
                Check.that("an answer came", true);
            } catch (InvocationTargetException e) {
                Check.that("seed " + seed + ", call " + i + ", " + method.getName() + " threw " + e.getCause(), false);
            }
        }
    }

    private static int argument(Random random, int widest) {
        if (widest > 0 || random.nextInt(6) == 0) {
            return EDGES[random.nextInt(EDGES.length)];
        }
        return random.nextInt(23) - 11;
    }
}
