import java.lang.reflect.Constructor;
import java.lang.reflect.Field;
import java.lang.reflect.Method;
import java.lang.reflect.Modifier;
import java.util.Arrays;
import java.util.Set;
import java.util.TreeSet;

/** The public face is the one of the document, and nothing more. */
public final class FaceTest {
    private static final String[] METHODS = {
        "int addClause(int,int,int,int)", "int removeClause(int)", "int clauses()", "int clauseSize(int)",
        "int assume(int)", "int retractAll()", "int setWeight(int,int)", "int nodes()", "int decisionNodes()",
        "int andNodes()", "int depth()", "int rootVariable()", "int components()", "int models()",
        "int modelsWith(int)", "long weightedCount()", "int shareBits()", "int implied(int)", "int leastModel()",
        "int explanation(int,int)", "int append(int)", "int clearText()", "int parse()", "int undo()",
        "int errorCount(int)", "long digest()"
    };
    private static final String[] CONSTANTS = {"OUT_OF_RANGE", "CONFLICT", "FULL", "NOTHING_SAVED", "NONE"};

    private FaceTest() {
    }

    public static void main(String[] args) {
        Check.that("the class is public and final", CnfCompiler.class.getModifiers() == (Modifier.PUBLIC | Modifier.FINAL));
        methods();
        constants();
        constructors();
        classesInside();
        Check.finish();
    }

    private static String signature(Method method) {
        StringBuilder text = new StringBuilder(method.getReturnType().getName() + " " + method.getName() + "(");
        for (Class<?> type : method.getParameterTypes()) {
            text.append(text.charAt(text.length() - 1) == '(' ? "" : ",").append(type.getName());
        }
        return text.append(")").toString();
    }

    private static void methods() {
        Set<String> seen = new TreeSet<>();
        Set<String> publicNames = new TreeSet<>();
        for (Method method : CnfCompiler.class.getDeclaredMethods()) {
            if (!Modifier.isPrivate(method.getModifiers())) {
                Check.that(method + " is public and not static", method.getModifiers() == Modifier.PUBLIC);
                seen.add(signature(method));
                publicNames.add(method.getName());
            }
        }
        Check.that("the methods are " + seen, seen.equals(new TreeSet<>(Arrays.asList(METHODS))));
        for (Class<?> inside : CnfCompiler.class.getDeclaredClasses()) {
            for (Method method : inside.getDeclaredMethods()) {
                Check.that(method + " has a name of its own", !publicNames.contains(method.getName()));
            }
        }
        for (Method method : CnfCompiler.class.getDeclaredMethods()) {
            Check.that(method + " has a name of its own",
                    !Modifier.isPrivate(method.getModifiers()) || !publicNames.contains(method.getName()));
        }
    }

    private static void constants() {
        Set<String> seen = new TreeSet<>();
        for (Field field : CnfCompiler.class.getDeclaredFields()) {
            int modifiers = field.getModifiers();
            if (!Modifier.isPrivate(modifiers)) {
                Check.that(field + " is a constant",
                        modifiers == (Modifier.PUBLIC | Modifier.STATIC | Modifier.FINAL) && field.getType() == int.class);
                seen.add(field.getName());
            }
            Check.that(field + " is final if it is static", !Modifier.isStatic(modifiers) || Modifier.isFinal(modifiers));
        }
        Check.that("the constants are " + seen, seen.equals(new TreeSet<>(Arrays.asList(CONSTANTS))));
    }

    private static void constructors() {
        Constructor<?>[] all = CnfCompiler.class.getDeclaredConstructors();
        Check.that("there is one constructor", all.length == 1);
        Check.that("it is public without parameters",
                all[0].getModifiers() == Modifier.PUBLIC && all[0].getParameterCount() == 0);
    }

    private static void classesInside() {
        Class<?>[] inside = CnfCompiler.class.getDeclaredClasses();
        Check.that("at most some twelve classes", inside.length < 12);
        for (Class<?> type : inside) {
            int modifiers = type.getModifiers();
            Check.that(type + " is static and not public",
                    Modifier.isStatic(modifiers) && !Modifier.isPublic(modifiers) && !Modifier.isProtected(modifiers));
            Check.that(type + " has some twenty fields at most", fieldsOfObjects(type) <= 20);
        }
        Check.that("some twenty fields at most", fieldsOfObjects(CnfCompiler.class) <= 20);
    }

    private static int fieldsOfObjects(Class<?> type) {
        int count = 0;
        for (Field field : type.getDeclaredFields()) {
            count += Modifier.isStatic(field.getModifiers()) ? 0 : 1;
        }
        return count;
    }
}
