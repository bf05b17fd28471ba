import java.lang.reflect.Constructor;
import java.lang.reflect.Field;
import java.lang.reflect.Method;
import java.lang.reflect.Modifier;
import java.util.Set;
import java.util.TreeSet;

/** The public face: just the members that the document names (rule 1 of LANGUAGE.md). */
public final class FaceTest {
    private static final Set<String> METHODS = new TreeSet<>(Set.of(
        "int token(int int int)", "int wipe(int)", "int check(int)", "int place()", "int run(int int boolean)",
        "int value()", "int fault(int)", "int steps()", "int events()", "int event(int)", "int most()"));
    private static final Set<String> FIELDS = new TreeSet<>(Set.of(
        "int REFUSED = -1", "int FULL = -2", "int WRONG = -3", "int RETURNED = 0", "int RAISED = 1", "int LATE = 2"));

    public static void main(String[] args) throws ReflectiveOperationException {
        Class<?> face = EndingsLab.class;
        Bench.due("the class is public and final", face.getModifiers() == (Modifier.PUBLIC | Modifier.FINAL));
        same("methods", methods(face), METHODS);
        same("fields", fields(face), FIELDS);
        Constructor<?>[] made = face.getDeclaredConstructors();
        Bench.due("one public constructor without parameters",
            made.length == 1 && Modifier.isPublic(made[0].getModifiers()) && made[0].getParameterCount() == 0);
        for (Class<?> inside : face.getDeclaredClasses()) {
            int is = inside.getModifiers();
            Bench.due(inside + " is static, and private or package-visible",
                Modifier.isStatic(is) && !Modifier.isPublic(is) && !Modifier.isProtected(is));
        }
        Bench.finish("FaceTest");
    }

    private static void same(String what, Set<String> got, Set<String> want) {
        Bench.due("the " + what + " " + got + " are " + want, got.equals(want));
    }

    private static Set<String> methods(Class<?> face) {
        Set<String> found = new TreeSet<>();
        Set<String> publicNames = new TreeSet<>();
        for (Method m : face.getDeclaredMethods()) {
            if (!Modifier.isPrivate(m.getModifiers()) && !m.isSynthetic()) {
                found.add(said(m));
                publicNames.add(m.getName());
                Bench.due(m + " is public and not static", m.getModifiers() == Modifier.PUBLIC);
            }
        }
        for (Method m : face.getDeclaredMethods()) {
            if (Modifier.isPrivate(m.getModifiers())) {
                Bench.due(m + " has a name of its own", !publicNames.contains(m.getName()));
            }
        }
        return found;
    }

    private static String said(Method m) {
        StringBuilder text = new StringBuilder();
        for (Class<?> type : m.getParameterTypes()) {
            text.append(text.length() == 0 ? "" : " ").append(type);
        }
        return m.getReturnType() + " " + m.getName() + "(" + text + ")";
    }

    private static Set<String> fields(Class<?> face) throws IllegalAccessException {
        Set<String> found = new TreeSet<>();
        for (Field f : face.getDeclaredFields()) {
            if (!Modifier.isPrivate(f.getModifiers())) {
                found.add(f.getType() + " " + f.getName() + " = " + f.get(null));
                Bench.due(f + " is a constant",
                    f.getModifiers() == (Modifier.PUBLIC | Modifier.STATIC | Modifier.FINAL));
            }
        }
        return found;
    }
}
