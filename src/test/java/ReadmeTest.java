import java.io.IOException;
import java.lang.reflect.InvocationTargetException;
import java.lang.reflect.Method;
import java.nio.file.Files;
import java.nio.file.Path;
import java.util.HashMap;
import java.util.HashSet;
import java.util.Map;
import java.util.Set;
import java.util.regex.Matcher;
import java.util.regex.Pattern;

/** README.md's example: each call is made, and its answer is the one that the comment begins with. */
public final class ReadmeTest {
    private static final String FIRST = "WindowMeters x = new WindowMeters();";
    private static final Pattern CALL = Pattern.compile(
            "(?:int (\\w+) = )?x\\.(\\w+)\\(([^)]*)\\);\\s+// (\\S+?)(?::? .*)?");

    private final Checks checks = new Checks();
    private final WindowMeters x = new WindowMeters();
    private final Map<String, Integer> names = new HashMap<>();
    private final Set<String> called = new HashSet<>();

    public static void main(String[] args) throws IOException, ReflectiveOperationException {
        ReadmeTest test = new ReadmeTest();
        String[] lines = example();
        test.checks.due("the example's first line", FIRST, lines[0]);
        for (int i = 1; i < lines.length; i++) {
            test.follow(lines[i]);
        }
        test.everyMethodIsShown();
        test.checks.end();
    }

    private static String[] example() throws IOException {
        String text = Files.readString(Path.of("README.md"));
        String start = "```java\n";
        int from = text.indexOf(start) + start.length();
        return text.substring(from, text.indexOf("\n```", from)).split("\n");
    }

    private void follow(String line) throws ReflectiveOperationException {
        Matcher m = CALL.matcher(line);
        if (!m.matches()) {
            checks.due(line, "a call with a comment", "another form");
            return;
        }
        Method method = methodOf(m.group(2));
        called.add(m.group(2));
        Object got = answer(method, numbers(m.group(3)));
        if (m.group(1) != null) {
            names.put(m.group(1), (Integer) got);
        }
        // A void call that does not throw has no answer for its comment to tell.
        if (got != null) {
            checks.due(line, m.group(4), got.toString());
        }
    }

    private static Method methodOf(String name) throws NoSuchMethodException {
        for (Method method : WindowMeters.class.getDeclaredMethods()) {
            if (method.getName().equals(name)) {
                return method;
            }
        }
        throw new NoSuchMethodException(name);
    }

    private Object[] numbers(String list) {
        if (list.isEmpty()) {
            return new Object[0];
        }
        String[] parts = list.split(", ");
        Object[] numbers = new Object[parts.length];
        for (int i = 0; i < parts.length; i++) {
            numbers[i] = names.containsKey(parts[i]) ? names.get(parts[i]) : Integer.valueOf(parts[i]);
        }
        return numbers;
    }

    private Object answer(Method method, Object[] numbers) throws IllegalAccessException {
        try {
            return method.invoke(x, numbers);
        } catch (InvocationTargetException e) {
            return e.getCause().getClass().getSimpleName();
        }
    }

    private void everyMethodIsShown() {
        for (Method method : WindowMeters.class.getMethods()) {
            if (method.getDeclaringClass() == WindowMeters.class) {
                checks.due("the example calls " + method.getName(), true, called.contains(method.getName()));
            }
        }
    }
}
