import java.io.IOException;
import java.lang.reflect.InvocationTargetException;
import java.lang.reflect.Method;
import java.lang.reflect.Modifier;
import java.nio.file.Files;
import java.nio.file.Path;
import java.util.Map;
import java.util.Set;
import java.util.TreeMap;
import java.util.TreeSet;
import java.util.regex.Matcher;
import java.util.regex.Pattern;

/** What README.md tells of the calls is so. */
public final class ReadmeTest {
    private static final Pattern CALL = Pattern.compile("map\\.(\\w+)\\((.*?)\\); *// (?:throws )?(\\w+).*");
    private static final Pattern ROW = Pattern.compile("\\| `(\\w+)\\(.*?\\)` \\|.*");

    public static void main(String[] args) throws IOException {
        Check check = new Check();
        Map<String, Method> face = face();
        Set<String> called = new TreeSet<>();
        Set<String> listed = new TreeSet<>();
        SpotContours map = new SpotContours();
        for (String line : Files.readAllLines(Path.of("README.md"))) {
            Matcher call = CALL.matcher(line);
            if (call.matches() && face.containsKey(call.group(1))) {
                called.add(call.group(1));
                check.same(call.group(3), line, outcome(map, face.get(call.group(1)), numbers(call.group(2))));
            } else {
                check.holds("a call that can be read: " + line, !line.startsWith("map."));
            }
            Matcher row = ROW.matcher(line);
            if (row.matches()) {
                listed.add(row.group(1));
            }
        }
        check.same(face.keySet().toString(), "the calls in the example", called.toString());
        check.same(face.keySet().toString(), "the calls in the table", listed.toString());
        check.finish();
    }

    private static Map<String, Method> face() {
        Map<String, Method> face = new TreeMap<>();
        for (Method method : SpotContours.class.getDeclaredMethods()) {
            if (Modifier.isPublic(method.getModifiers())) {
                face.put(method.getName(), method);
            }
        }
        return face;
    }

    private static Object[] numbers(String text) {
        if (text.isEmpty()) {
            return new Object[0];
        }
        String[] parts = text.split(", ");
        Object[] numbers = new Object[parts.length];
        for (int i = 0; i < parts.length; i++) {
            numbers[i] = Integer.valueOf(parts[i]);
        }
        return numbers;
    }

    private static String outcome(SpotContours map, Method method, Object[] arguments) {
        try {
            return String.valueOf(method.invoke(map, arguments));
        } catch (InvocationTargetException e) {
            return e.getCause().getClass().getSimpleName();
        } catch (IllegalAccessException | IllegalArgumentException e) {
            return e.toString();
        }
    }
}
