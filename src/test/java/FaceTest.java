import java.lang.reflect.Constructor;
import java.lang.reflect.Field;
import java.lang.reflect.Method;
import java.lang.reflect.Modifier;
import java.util.Arrays;
import java.util.TreeSet;

/** The public face is the document's, and nothing else of the class is seen from outside. */
public final class FaceTest {
    private static final String METHODS = "[int at(int, int), int bound(int), int code(int), int cut(int, int), "
            + "int fault(), int octet(int), int open(), int out(int) throws ArrayIndexOutOfBoundsException, "
            + "int pack(int), int plain(int), int repeat(int, int), int rule(int, int), int size(int), "
            + "int told(int), long unit(int)]";

    public static void main(String[] args) {
        Checks checks = new Checks("FaceTest");
        checks.due("class", Modifier.toString(RunForms.class.getModifiers()), "public final");
        checks.due("constants", constants(), "[public static final int BAD, public static final int FULL, "
                + "public static final int STATE]");
        checks.due("constructors", constructors(), "[public (int)]");
        checks.due("methods", methods(), METHODS);
        checks.due("nested", nested(), "[]");
        checks.due("BAD", RunForms.BAD, -1);
        checks.due("FULL", RunForms.FULL, -2);
        checks.due("STATE", RunForms.STATE, -3);
        checks.end();
    }

    private static String constants() {
        TreeSet<String> all = new TreeSet<>();
        for (Field f : RunForms.class.getDeclaredFields()) {
            if (!Modifier.isPrivate(f.getModifiers())) {
                all.add(Modifier.toString(f.getModifiers()) + " " + f.getType() + " " + f.getName());
            }
        }
        return all.toString();
    }

    private static String constructors() {
        TreeSet<String> all = new TreeSet<>();
        for (Constructor<?> c : RunForms.class.getDeclaredConstructors()) {
            all.add(Modifier.toString(c.getModifiers()) + " " + types(c.getParameterTypes()));
        }
        return all.toString();
    }

    private static String methods() {
        TreeSet<String> all = new TreeSet<>();
        for (Method m : RunForms.class.getDeclaredMethods()) {
            if (Modifier.isPrivate(m.getModifiers())) {
                continue;
            }
            String thrown = "";
            for (Class<?> e : m.getExceptionTypes()) {
                thrown += " throws " + e.getSimpleName();
            }
            all.add(m.getReturnType() + " " + m.getName() + types(m.getParameterTypes()) + thrown);
        }
        return all.toString();
    }

    private static String nested() {
        TreeSet<String> seen = new TreeSet<>();
        for (Class<?> c : RunForms.class.getDeclaredClasses()) {
            if (Modifier.isPublic(c.getModifiers()) || !Modifier.isStatic(c.getModifiers())) {
                seen.add(c.getName());
            }
        }
        return seen.toString();
    }

    private static String types(Class<?>[] types) {
        return Arrays.toString(types).replace('[', '(').replace(']', ')');
    }
}
