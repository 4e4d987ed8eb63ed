import java.io.IOException;
import java.lang.reflect.InvocationTargetException;
import java.lang.reflect.Method;
import java.nio.file.Files;
import java.nio.file.Path;
import java.util.regex.Matcher;
import java.util.regex.Pattern;

/** The example of README.md: each call as it stands there, and the answer that stands behind it. */
final class ReadmeTest {
    private static final Path README = Path.of("README.md");
    private static final Pattern EXAMPLE = Pattern.compile("(?s)```java\n(.*?)```");
    private static final Pattern CALL = Pattern.compile("server\\.(\\w+)\\((.*)\\); *// (\\w+)(:.*)?");
    private static final Checks CHECKS = new Checks("ReadmeTest");

    public static void main(String[] args) throws IOException, ReflectiveOperationException {
        Matcher example = EXAMPLE.matcher(Files.readString(README));
        if (!example.find()) {
            CHECKS.tell("there is no example");
        } else {
            ask(example.group(1));
        }
        CHECKS.finish();
    }

    private static void ask(String example) throws ReflectiveOperationException {
        ShelfServer server = null;
        for (String line : example.split("\n")) {
            Matcher call = CALL.matcher(line);
            if (line.equals("ShelfServer server = new ShelfServer();")) {
                server = new ShelfServer();
            } else if (call.matches() && server != null) {
                CHECKS.due(line, number(call.group(3)), answer(server, call.group(1), call.group(2)));
            } else if (!line.isEmpty() && !line.startsWith("// ")) {
                CHECKS.tell("what is this? " + line);
            }
        }
    }

    private static int answer(ShelfServer server, String name, String arguments) throws ReflectiveOperationException {
        String[] texts = arguments.isEmpty() ? new String[0] : arguments.split(", ");
        for (Method one : ShelfServer.class.getMethods()) {
            if (one.getName().equals(name) && one.getParameterCount() == texts.length) {
                return answer(server, one, texts);
            }
        }
        CHECKS.tell("no such call: " + name + " with " + texts.length + " arguments");
        return 0;
    }

    private static int answer(ShelfServer server, Method called, String[] texts) throws ReflectiveOperationException {
        Object[] with = new Object[texts.length];
        for (int i = 0; i < texts.length; i++) {
            boolean isTruth = called.getParameterTypes()[i] == boolean.class;
            with[i] = isTruth ? (Object) Boolean.valueOf(texts[i]) : (Object) Integer.valueOf(number(texts[i]));
        }
        try {
            return (int) called.invoke(server, with);
        } catch (InvocationTargetException thrown) {
            CHECKS.tell(called.getName() + " threw " + thrown.getCause());
            return 0;
        }
    }

    /** 12, 1 << 3, DONE or ShelfServer.DONE. */
    private static int number(String text) throws ReflectiveOperationException {
        if (text.startsWith("1 << ")) {
            return 1 << Integer.parseInt(text.substring(5));
        }
        if (text.matches("[0-9]+")) {
            return Integer.parseInt(text);
        }
        return ShelfServer.class.getField(text.replace("ShelfServer.", "")).getInt(null);
    }
}
