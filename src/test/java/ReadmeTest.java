import java.io.IOException;
import java.lang.reflect.Method;
import java.nio.file.Files;
import java.nio.file.Path;
import java.util.regex.Matcher;
import java.util.regex.Pattern;

/** Makes the calls of README.md's example and compares their answers with the numbers that stand behind them. */
public final class ReadmeTest {
    private static final Pattern EXAMPLE = Pattern.compile("(?s)```java\n(.*?)```");
    private static final Pattern CALL = Pattern.compile("server\\.(\\w+)\\(([^)]*)\\); *// (-?\\d+)\\b.*");

    public static void main(String[] args) throws ReflectiveOperationException, IOException {
        Due due = new Due();
        Matcher example = EXAMPLE.matcher(Files.readString(Path.of("README.md")));
        due.is("README.md has an example", example.find() ? 1 : 0, 1);
        String[] lines = example.group(1).split("\n");
        due.is("its first line makes an object", lines[0].equals("ShareServer server = new ShareServer();") ? 1 : 0, 1);
        ShareServer server = new ShareServer();
        int calls = 0;
        for (int i = 1; i < lines.length; i++) {
            Matcher call = CALL.matcher(lines[i]);
            if (call.matches()) {
                calls++;
                due.is(lines[i], answer(server, call.group(1), call.group(2)), Long.parseLong(call.group(3)));
            } else {
                due.is("a line is a call with its answer, a remark or empty: " + lines[i],
                    lines[i].isEmpty() || lines[i].startsWith("//") ? 1 : 0, 1);
            }
        }
        due.is("calls were found", calls > 20 ? 1 : 0, 1);
        due.end();
    }

    private static int answer(ShareServer server, String name, String text) throws ReflectiveOperationException {
        String[] parts = text.isEmpty() ? new String[0] : text.split(", ");
        for (Method method : ShareServer.class.getMethods()) {
            if (method.getName().equals(name)) {
                return (Integer) method.invoke(server, arguments(method.getParameterTypes(), parts));
            }
        }
        throw new NoSuchMethodException(name);
    }

    private static Object[] arguments(Class<?>[] types, String[] parts) throws ReflectiveOperationException {
        Object[] arguments = new Object[parts.length];
        for (int i = 0; i < parts.length; i++) {
            if (types[i] == boolean.class) {
                arguments[i] = Boolean.valueOf(parts[i]);
            } else {
                arguments[i] = sum(parts[i]);
            }
        }
        return arguments;
    }

    private static int sum(String text) throws ReflectiveOperationException {
        int sum = 0;
        for (String part : text.split(" \\+ ")) {
            if (part.startsWith("ShareServer.")) {
                sum += ShareServer.class.getField(part.substring("ShareServer.".length())).getInt(null);
            } else {
                sum += Integer.parseInt(part);
            }
        }
        return sum;
    }
}
