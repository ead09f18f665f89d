import java.io.IOException;
import java.lang.reflect.InvocationTargetException;
import java.lang.reflect.Method;
import java.lang.reflect.Modifier;
import java.nio.file.Files;
import java.nio.file.Path;
import java.util.HashSet;
import java.util.Set;
import java.util.regex.Matcher;
import java.util.regex.Pattern;

/** Runs the calls that README.md shows, on one object, and looks for the answers that stand behind them. */
public final class ReadmeTest {
    private static final Pattern CALL = Pattern.compile("mill\\.(\\w+)\\((.*?)\\); +// (throws \\w+|-?\\d+)?.*");

    public static void main(String[] args) throws IOException, ReflectiveOperationException {
        DigitMill mill = new DigitMill();
        Set<String> shown = new HashSet<>();
        for (String line : Files.readAllLines(Path.of("README.md"))) {
            Matcher call = CALL.matcher(line);
            if (call.matches()) {
                shown.add(call.group(1));
                String want = call.group(3) == null ? "nothing" : call.group(3);
                Check.due("README: " + line, want, answer(mill, call.group(1), call.group(2)));
            }
        }
        for (Method method : DigitMill.class.getDeclaredMethods()) {
            if (Modifier.isPublic(method.getModifiers())) {
                Check.due("README shows " + method.getName(), true, shown.contains(method.getName()));
            }
        }
        Check.end("ReadmeTest");
    }

    private static String answer(DigitMill mill, String name, String written) throws ReflectiveOperationException {
        Method method = named(name);
        try {
            Object answer = method.invoke(mill, arguments(method, written));
            return answer == null ? "nothing" : answer.toString();
        } catch (InvocationTargetException e) {
            return "throws " + e.getCause().getClass().getSimpleName();
        }
    }

    private static Method named(String name) throws NoSuchMethodException {
        for (Method method : DigitMill.class.getMethods()) {
            if (method.getName().equals(name)) {
                return method;
            }
        }
        throw new NoSuchMethodException(name);
    }

    private static Object[] arguments(Method method, String written) {
        Class<?>[] types = method.getParameterTypes();
        String[] parts = written.isEmpty() ? new String[0] : written.split(", ");
        Object[] arguments = new Object[parts.length];
        for (int i = 0; i < parts.length; i++) {
            long value = Long.parseLong(parts[i]);
            if (i < types.length && types[i] == int.class) {
                arguments[i] = (int) value;
            } else {
                arguments[i] = value;
            }
        }
        return arguments;
    }
}
