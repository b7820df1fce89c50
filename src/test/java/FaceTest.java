import java.lang.reflect.Constructor;
import java.lang.reflect.Field;
import java.lang.reflect.Method;
import java.lang.reflect.Modifier;
import java.util.Arrays;
import java.util.Set;
import java.util.TreeSet;
import java.util.stream.Collectors;

/** The class has the document's public face, and no other member that can be seen from outside. */
public final class FaceTest {
    private static final String ARGUMENT = " throws IllegalArgumentException";
    private static final String STATE = " throws IllegalStateException";
    private static final String BOTH = " throws IllegalArgumentException,IllegalStateException";

    private static final String[] METHODS = {
        "int relation(int)" + BOTH,
        "boolean fact(int,int,int,int)" + BOTH,
        "boolean drop(int,int,int,int)" + ARGUMENT,
        "void head(int,int,int,int)" + ARGUMENT,
        "int item(int,int,int,int,int)" + BOTH,
        "int rule()" + STATE,
        "int strata()",
        "int stratum(int)" + BOTH,
        "int step()",
        "int run()",
        "int rounds()",
        "int count(int)" + ARGUMENT,
        "boolean has(int,int,int,int)" + ARGUMENT,
        "int tuple(int,int,int)" + ARGUMENT,
        "int like(int,int,int,int)" + ARGUMENT,
        "int matches(int)" + ARGUMENT,
    };

    public static void main(String[] args) {
        classIsFinal();
        constants();
        constructors();
        methods();
        Checks.end();
    }

    private static void classIsFinal() {
        int modifiers = RuleRounds.class.getModifiers();
        Checks.due("public final class", true, Modifier.isPublic(modifiers) && Modifier.isFinal(modifiers));
        for (Class<?> inside : RuleRounds.class.getDeclaredClasses()) {
            Checks.due("static class " + inside.getSimpleName(), true, Modifier.isStatic(inside.getModifiers()));
        }
    }

    private static void constants() {
        Checks.due("NONE", -1, RuleRounds.NONE);
        Checks.due("UNSAFE", -2, RuleRounds.UNSAFE);
        Checks.due("CYCLE", -3, RuleRounds.CYCLE);
        Checks.due("DONE", -4, RuleRounds.DONE);
        Checks.due("FULL", -5, RuleRounds.FULL);
        Set<String> seen = new TreeSet<>();
        for (Field field : RuleRounds.class.getDeclaredFields()) {
            if (!Modifier.isPrivate(field.getModifiers())) {
                seen.add(Modifier.toString(field.getModifiers()) + " " + field.getType() + " " + field.getName());
            }
        }
        Checks.due("fields", "[public static final int CYCLE, public static final int DONE, "
                + "public static final int FULL, public static final int NONE, public static final int UNSAFE]",
                seen.toString());
    }

    private static void constructors() {
        Constructor<?>[] all = RuleRounds.class.getDeclaredConstructors();
        Checks.due("constructors", 1, all.length);
        Checks.due("constructor", "public RuleRounds()", all[0].toString());
    }

    private static void methods() {
        Set<String> seen = new TreeSet<>();
        Set<String> publicNames = new TreeSet<>();
        for (Method method : RuleRounds.class.getDeclaredMethods()) {
            if (!Modifier.isPrivate(method.getModifiers())) {
                seen.add(written(method));
                publicNames.add(method.getName());
                Checks.due(method.getName() + " is public", Modifier.PUBLIC, method.getModifiers());
            }
        }
        Checks.due("methods", new TreeSet<>(Arrays.asList(METHODS)).toString(), seen.toString());
        for (Method method : RuleRounds.class.getDeclaredMethods()) {
            boolean hides = Modifier.isPrivate(method.getModifiers()) && publicNames.contains(method.getName());
            Checks.due("a private " + method.getName(), false, hides);
        }
    }

    private static String written(Method method) {
        String text = method.getReturnType() + " " + method.getName() + "(" + names(method.getParameterTypes()) + ")";
        Class<?>[] thrown = method.getExceptionTypes();
        return thrown.length == 0 ? text : text + " throws " + names(thrown);
    }

    private static String names(Class<?>[] types) {
        return Arrays.stream(types).map(Class::getSimpleName).collect(Collectors.joining(","));
    }
}
