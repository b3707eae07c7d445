import java.io.IOException;
import java.lang.reflect.InvocationTargetException;
import java.lang.reflect.Method;
import java.nio.file.Files;
import java.nio.file.Path;
import java.util.HashMap;
import java.util.Map;
import java.util.regex.Matcher;
import java.util.regex.Pattern;

/** The examples of README.md answer what stands beside them, and each call of the face is named. */
public final class ReadmeTest {
    private static final String NEW = "GateMaker maker = new GateMaker();";
    private static final Pattern CALL = Pattern.compile(
            "(?:(?:int|long) (\\w+) = )?maker\\.(\\w+)\\((.*)\\); +// (-?\\d+|throws \\w+)(?::.*)?");

    private static final Map<String, Method> FACE = new HashMap<>();
    private static final Map<String, String> named = new HashMap<>();
    private static GateMaker maker = new GateMaker();

    public static void main(String[] args) throws IOException {
        for (Method method : GateMaker.class.getMethods()) {
            if (method.getDeclaringClass() == GateMaker.class) {
                FACE.put(method.getName(), method);
            }
        }
        String readme = Files.readString(Path.of("README.md"));
        for (String name : FACE.keySet()) {
            Check.due(name + " is named", readme.contains("`" + name + "`") ? 1 : 0, 1);
        }
        boolean example = false;
        int calls = 0;
        for (String line : readme.split("\n")) {
            if (line.startsWith("```")) {
                example = line.equals("```java");
            } else if (example && line.equals(NEW)) {
                maker = new GateMaker();
                named.clear();
            } else if (example && !line.isEmpty()) {
                followed(line);
                calls++;
            }
        }
        Check.due("there are examples", calls > 0 ? 1 : 0, 1);
        Check.end();
    }

    private static void followed(String line) {
        Matcher call = CALL.matcher(line);
        if (!call.matches() || !FACE.containsKey(call.group(2))) {
            Check.same(line, "no call of the face with its answer", "one");
            return;
        }
        String answer = answerOf(FACE.get(call.group(2)), call.group(3));
        Check.same(line, answer, call.group(4));
        if (call.group(1) != null) {
            named.put(call.group(1), answer);
        }
    }

    private static String answerOf(Method method, String arguments) {
        String[] texts = arguments.isEmpty() ? new String[0] : arguments.split(", ");
        Class<?>[] types = method.getParameterTypes();
        if (texts.length != types.length) {
            return "other parameters";
        }
        Object[] values = new Object[texts.length];
        for (int i = 0; i < texts.length; i++) {
            values[i] = valueOf(types[i], named.getOrDefault(texts[i], texts[i]));
        }
        try {
            return method.invoke(maker, values).toString();
        } catch (InvocationTargetException thrown) {
            return "throws " + thrown.getCause().getClass().getSimpleName();
        } catch (IllegalAccessException hidden) {
            return "hidden";
        }
    }

    private static Object valueOf(Class<?> type, String text) {
        if (type == boolean.class) {
            return Boolean.valueOf(text);
        }
        if (type == long.class) {
            return Long.valueOf(text);
        }
        return Integer.valueOf(text);
    }
}
