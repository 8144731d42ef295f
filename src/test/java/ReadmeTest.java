import java.io.IOException;
import java.lang.reflect.InvocationTargetException;
import java.lang.reflect.Method;
import java.lang.reflect.Modifier;
import java.nio.file.Files;
import java.nio.file.Path;
import java.util.ArrayList;
import java.util.List;
import java.util.regex.Matcher;
import java.util.regex.Pattern;

/** README.md's example answers what it says there, and its tables have every call of the face. */
public final class ReadmeTest {
    /** A call and its answer, as in: x.take(0); // 11: source 3 */
    private static final Pattern LINE = Pattern.compile("x\\.(\\w+)\\(([^)]*)\\);\\s+// ([^:]+): .+");

    public static void main(String[] args) throws IOException, IllegalAccessException {
        List<String> lines = Files.readAllLines(Path.of("README.md"));
        example(lines);
        tables(lines);
        Check.end();
    }

    private static void example(List<String> lines) throws IllegalAccessException {
        MessageCrossbar x = new MessageCrossbar();
        int calls = 0;
        for (String line : lines) {
            Matcher call = LINE.matcher(line);
            if (call.matches()) {
                calls++;
                Check.due(line, answer(x, call.group(1), call.group(2)), plain(call.group(3)));
            } else {
                Check.due(line + " is a call without its answer", line.startsWith("x."), false);
            }
        }
        Check.due("calls were found in the example", calls > 0, true);
    }

    private static String answer(MessageCrossbar x, String name, String text) throws IllegalAccessException {
        Method method = methodOf(name);
        Object[] values = new Object[method.getParameterCount()];
        String[] words = text.isEmpty() ? new String[0] : text.split(", ");
        for (int i = 0; i < values.length; i++) {
            values[i] = value(method.getParameterTypes()[i], words[i]);
        }
        try {
            return String.valueOf(method.invoke(x, values));
        } catch (InvocationTargetException e) {
            return e.getCause().getClass().getSimpleName();
        }
    }

    private static Method methodOf(String name) {
        for (Method method : face()) {
            if (method.getName().equals(name)) {
                return method;
            }
        }
        throw new IllegalStateException("README.md calls " + name);
    }

    private static Object value(Class<?> type, String word) {
        if (type == boolean.class) {
            return Boolean.valueOf(word);
        }
        long number = Long.decode(word.replace("L", ""));
        if (type == long.class) {
            return number;
        }
        return (int) number;
    }

    /** The answer as a call's answer is written: README.md also writes NONE and hexadecimal numbers. */
    private static String plain(String told) {
        if (told.equals("NONE")) {
            return String.valueOf(MessageCrossbar.NONE);
        }
        return told.startsWith("0x") ? String.valueOf(Long.decode(told)) : told;
    }

    private static void tables(List<String> lines) {
        Check.due("README.md has the constructor in a table", hasRow(lines, "MessageCrossbar("), true);
        for (Method method : face()) {
            String start = method.getReturnType() + " " + method.getName() + "(";
            Check.due("README.md has " + start + " in a table", hasRow(lines, start), true);
        }
    }

    private static boolean hasRow(List<String> lines, String start) {
        for (String line : lines) {
            if (line.startsWith("| `" + start)) {
                return true;
            }
        }
        return false;
    }

    private static List<Method> face() {
        List<Method> found = new ArrayList<>();
        for (Method method : MessageCrossbar.class.getDeclaredMethods()) {
            if (Modifier.isPublic(method.getModifiers())) {
                found.add(method);
            }
        }
        return found;
    }
}
