import java.lang.reflect.Constructor;
import java.lang.reflect.Field;
import java.lang.reflect.Member;
import java.lang.reflect.Method;
import java.lang.reflect.Modifier;
import java.util.Arrays;
import java.util.Collections;
import java.util.List;
import java.util.Map;
import java.util.TreeMap;

/** The class has the document's face, and nothing else that can be seen from outside. */
public final class FaceTest {
    private static final String BOTH = " throws IllegalArgumentException IllegalStateException";
    private static final List<String> METHODS = Arrays.asList(
            "int transition(int, int)" + BOTH,
            "void first(int) throws IllegalArgumentException",
            "void clear()",
            "int unfold()",
            "int reach(int)" + BOTH,
            "int deadlock() throws IllegalStateException",
            "int way(int)",
            "int play(int)" + BOTH,
            "int count(int)",
            "int event(int, int)",
            "int takes(int, int)",
            "int condition(int, int)",
            "boolean concurrent(int, int)");

    public static void main(String[] args) {
        int mods = NetUnfolder.class.getModifiers();
        Checks.that("the class is public and final", Modifier.isPublic(mods) && Modifier.isFinal(mods));
        constants();
        methods();
        constructors();
        nestedClasses();
        Checks.end();
    }

    private static boolean isSeen(Member member) {
        return !member.isSynthetic() && !Modifier.isPrivate(member.getModifiers());
    }

    private static void constants() {
        Checks.same("NONE", NetUnfolder.NONE, -1);
        Checks.same("UNSAFE", NetUnfolder.UNSAFE, -2);
        Checks.same("ROOM", NetUnfolder.ROOM, -3);
        int seen = 0;
        for (Field field : NetUnfolder.class.getDeclaredFields()) {
            int mods = field.getModifiers();
            if (isSeen(field)) {
                seen++;
                Checks.that(field.getName() + " is a public constant", Modifier.isPublic(mods)
                        && Modifier.isStatic(mods) && Modifier.isFinal(mods) && field.getType() == int.class);
            }
            Checks.that(field.getName() + " is final if static", !Modifier.isStatic(mods) || Modifier.isFinal(mods));
        }
        Checks.same("constants", seen, 3);
    }

    private static void methods() {
        Map<String, Boolean> seen = new TreeMap<>();
        for (Method method : NetUnfolder.class.getDeclaredMethods()) {
            if (isSeen(method)) {
                seen.put(textOf(method), Modifier.isPublic(method.getModifiers()));
            } else {
                for (String face : METHODS) {
                    Checks.that(method.getName() + " is no public name", !face.contains(" " + method.getName() + "("));
                }
            }
        }
        for (String due : METHODS) {
            Checks.that("public " + due, seen.getOrDefault(due, false));
        }
        Checks.same("methods", seen.size(), METHODS.size());
    }

    private static String textOf(Method method) {
        StringBuilder text = new StringBuilder(method.getReturnType().getName());
        text.append(" ").append(method.getName()).append("(");
        text.append(String.join(", ", Collections.nCopies(method.getParameterCount(), "int"))).append(")");
        for (Class<?> parameter : method.getParameterTypes()) {
            Checks.that(method.getName() + " takes ints", parameter == int.class);
        }
        if (method.getExceptionTypes().length > 0) {
            text.append(" throws");
        }
        for (Class<?> thrown : method.getExceptionTypes()) {
            text.append(" ").append(thrown.getSimpleName());
        }
        return text.toString();
    }

    private static void constructors() {
        Constructor<?>[] all = NetUnfolder.class.getDeclaredConstructors();
        Checks.same("constructors", all.length, 1);
        Checks.that("it is public", Modifier.isPublic(all[0].getModifiers()));
        Checks.same("its parameters", all[0].getParameterCount(), 0);
    }

    private static void nestedClasses() {
        Class<?>[] nested = NetUnfolder.class.getDeclaredClasses();
        Checks.that("some twelve classes at most", nested.length <= 12);
        for (Class<?> inside : nested) {
            int mods = inside.getModifiers();
            Checks.that(inside + " is static and hidden",
                    Modifier.isStatic(mods) && !Modifier.isPublic(mods) && !Modifier.isProtected(mods));
        }
    }
}
