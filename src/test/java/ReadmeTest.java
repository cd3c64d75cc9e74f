import java.io.IOException;
import java.lang.reflect.InvocationTargetException;
import java.lang.reflect.Method;
import java.lang.reflect.Modifier;
import java.nio.file.Files;
import java.nio.file.Path;
import java.util.Arrays;
import java.util.Set;
import java.util.TreeSet;
import java.util.regex.Matcher;
import java.util.regex.Pattern;

/** README.md's examples are called, so that they stay true. */
public final class ReadmeTest {
    private static final Pattern MADE = Pattern.compile("RunForms x = new RunForms\\((\\d+)\\);.*");
    private static final Pattern CALL = Pattern.compile("x\\.(\\w+)\\(([-\\d, ]*)\\); +// (throws \\w+|-?\\d+)\\b.*");
    private static final Pattern HELD = Pattern.compile("(SOURCE|CODE) is (\\d+( \\d+)*)");
    private static final Checks checks = new Checks("ReadmeTest");

    private ReadmeTest() { }

    public static void main(String[] args) throws IOException, ReflectiveOperationException {
        RunForms x = new RunForms(0);
        Set<String> shown = new TreeSet<>();
        for (String line : Files.readAllLines(Path.of("README.md"))) {
            Matcher made = MADE.matcher(line);
            Matcher call = CALL.matcher(line);
            if (made.matches()) {
                x = new RunForms(Integer.parseInt(made.group(1)));
            } else if (call.matches()) {
                shown.add(call.group(1));
                checks.due(line, answer(x, call.group(1), numbers(call.group(2))), call.group(3));
                dueHeld(line, x);
            } else {
                checks.due("a call without its answer: " + line, line.startsWith("x.") ? 1 : 0, 0);
            }
        }
        checks.due("the calls that README.md shows", shown.toString(), face().toString());
        checks.end();
    }

    private static void dueHeld(String line, RunForms x) {
        Matcher held = HELD.matcher(line);
        if (held.find()) {
            checks.due(line, Made.bytes(x, held.group(1).equals("SOURCE") ? 0 : 1), held.group(2));
        }
    }

    private static Object[] numbers(String written) {
        return written.isEmpty() ? new Object[0]
                : Arrays.stream(written.split(", ")).map(Integer::valueOf).toArray();
    }

    private static String answer(RunForms x, String name, Object[] numbers) throws ReflectiveOperationException {
        Class<?>[] types = new Class<?>[numbers.length];
        Arrays.fill(types, int.class);
        try {
            return String.valueOf(RunForms.class.getMethod(name, types).invoke(x, numbers));
        } catch (InvocationTargetException e) {
            return "throws " + e.getCause().getClass().getSimpleName();
        }
    }

    private static Set<String> face() {
        Set<String> names = new TreeSet<>();
        for (Method method : RunForms.class.getDeclaredMethods()) {
            if (Modifier.isPublic(method.getModifiers())) {
                names.add(method.getName());
            }
        }
        return names;
    }
}
