import java.io.IOException;
import java.lang.reflect.InvocationTargetException;
import java.lang.reflect.Method;
import java.nio.file.Files;
import java.nio.file.Path;
import java.util.Set;
import java.util.TreeSet;
import java.util.regex.Matcher;
import java.util.regex.Pattern;

/** The example of README.md: each call in it answers what is written behind it. */
public final class ReadmeTest {
    private static final Path README = Path.of("README.md");
    private static final String EXAMPLE = "SoleArrays x = new SoleArrays();";
    private static final Pattern TYPED = Pattern.compile("type\\(x, \"([^\"]*)\"\\);");
    private static final Pattern CALLED =
            Pattern.compile("x\\.(\\w+)\\(([^)]*)\\); +// (throws \\w+|true|false|-?\\d+)(: .*)?");

    private static final Set<String> TRIED = new TreeSet<>();

    private static SoleArrays x = null;

    public static void main(String[] args) throws IOException, ReflectiveOperationException {
        boolean inExample = false;
        for (String line : Files.readAllLines(README)) {
            if (line.equals(EXAMPLE)) {
                x = new SoleArrays();
                inExample = true;
            } else if (line.startsWith("```")) {
                inExample = false;
            } else if (inExample && !line.isEmpty()) {
                tryLine(line);
            }
        }
        everyMethodIsTried();
        Trial.end();
    }

    private static void tryLine(String line) throws ReflectiveOperationException {
        Matcher typed = TYPED.matcher(line);
        Matcher called = CALLED.matcher(line);
        if (typed.matches()) {
            TRIED.add("type");
            for (char c : typed.group(1).toCharArray()) {
                Trial.due("type of '" + c + "' in " + line, x.type(c), true);
            }
        } else if (called.matches()) {
            TRIED.add(called.group(1));
            Trial.due(line, answer(called.group(1), called.group(2)), called.group(3));
        } else {
            Trial.due(line + " is a call with its answer, which", false, true);
        }
    }

    private static String answer(String name, String written) throws ReflectiveOperationException {
        Method method = methodNamed(name);
        Class<?>[] types = method.getParameterTypes();
        String[] parts = written.isEmpty() ? new String[0] : written.split(", ");
        Object[] values = new Object[types.length];
        for (int i = 0; i < types.length; i++) {
            values[i] = valueOf(types[i], parts[i]);
        }
        try {
            return String.valueOf(method.invoke(x, values));
        } catch (InvocationTargetException e) {
            return "throws " + e.getCause().getClass().getSimpleName();
        }
    }

    private static Object valueOf(Class<?> type, String written) {
        if (type == char.class) {
            return written.charAt(1);
        }
        if (type == long.class) {
            return Long.parseLong(written);
        }
        return Integer.parseInt(written);
    }

    private static void everyMethodIsTried() {
        for (Method method : SoleArrays.class.getMethods()) {
            if (method.getDeclaringClass() == SoleArrays.class) {
                Trial.due("the example calls " + method.getName() + ", which", TRIED.contains(method.getName()), true);
            }
        }
    }

    private static Method methodNamed(String name) throws NoSuchMethodException {
        for (Method method : SoleArrays.class.getMethods()) {
            if (method.getName().equals(name)) {
                return method;
            }
        }
        throw new NoSuchMethodException(name);
    }
}
