import java.io.IOException;
import java.lang.reflect.InvocationTargetException;
import java.lang.reflect.Method;
import java.nio.file.Files;
import java.nio.file.Path;
import java.util.Set;
import java.util.TreeSet;
import java.util.regex.Matcher;
import java.util.regex.Pattern;

/** The example in README.md: each of its calls answers, or throws, what the comment behind it says. */
public final class ReadmeTest {
    private static final Checks CHECKS = new Checks("README.md");
    private static final Pattern CALL = Pattern.compile(
            "x\\.(\\w+)\\((.*?)\\);(?: *// (answers|throws) (\\w+|-1)\\b.*)?");

    private final DigestStack x = new DigestStack();
    private final Set<String> used = new TreeSet<>();

    public static void main(String[] args) throws IOException {
        new ReadmeTest().follow(Files.readString(Path.of("README.md")));
        CHECKS.end();
    }

    private void follow(String text) {
        int from = text.indexOf("```java\n") + 8;
        for (String line : text.substring(from, text.indexOf("```", from)).split("\n")) {
            if (line.startsWith("x.")) {
                followLine(line);
            }
        }
        CHECKS.due("calls of the face in the example", face(), () -> used);
    }

    private void followLine(String line) {
        Matcher parts = CALL.matcher(line);
        if (!parts.matches()) {
            CHECKS.due("the form of: " + line, "a call and its answer", () -> "something else");
            return;
        }
        used.add(parts.group(1));
        CHECKS.due(line, due(parts.group(3), parts.group(4)), () -> told(parts.group(1), parts.group(2)));
    }

    private static String due(String word, String value) {
        if (word == null) {
            return "nothing";
        }
        return word.equals("throws") ? "throws." + value : plain(value);
    }

    private static String plain(String value) {
        return value.startsWith("0x") ? String.valueOf(number(value)) : value;
    }

    private static long number(String text) {
        String digits = text.replace("L", "");
        return digits.startsWith("0x") ? Long.parseUnsignedLong(digits.substring(2), 16) : Long.parseLong(digits);
    }

    private String told(String name, String arguments) {
        Method method = named(name);
        try {
            Object answer = method.invoke(x, values(method, arguments));
            return method.getReturnType() == void.class ? "nothing" : String.valueOf(answer);
        } catch (InvocationTargetException e) {
            return "throws." + e.getCause().getClass().getSimpleName();
        } catch (IllegalAccessException e) {
            throw new IllegalStateException(e);
        }
    }

    private static Object[] values(Method method, String arguments) {
        String[] texts = arguments.isEmpty() ? new String[0] : arguments.split(", ");
        Object[] values = new Object[texts.length];
        for (int i = 0; i < texts.length; i++) {
            long value = number(texts[i]);
            if (method.getParameterTypes()[i] == int.class) {
                values[i] = Math.toIntExact(value);
            } else {
                values[i] = value;
            }
        }
        return values;
    }

    private static Method named(String name) {
        for (Method method : DigestStack.class.getMethods()) {
            if (method.getName().equals(name)) {
                return method;
            }
        }
        throw new IllegalStateException("no method " + name);
    }

    private static Set<String> face() {
        Set<String> names = new TreeSet<>();
        for (Method method : DigestStack.class.getMethods()) {
            if (method.getDeclaringClass() == DigestStack.class) {
                names.add(method.getName());
            }
        }
        return names;
    }
}
