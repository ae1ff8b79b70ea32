import java.io.IOException;
import java.lang.reflect.Method;
import java.lang.reflect.Modifier;
import java.nio.file.Files;
import java.nio.file.Path;
import java.util.regex.Matcher;
import java.util.regex.Pattern;

/** README.md: its examples answer what it says, and it tells each call and each constant. */
public final class ReadmeTest {
    private static final Pattern NEW = Pattern.compile("OnceOnly x = new OnceOnly\\((\\d+)\\);.*");
    private static final Pattern CALL = Pattern.compile("x\\.(\\w+)\\(([-\\d, ]*)\\);\\s+// (-?\\d+)(\\D.*)?");

    private ReadmeTest() {
    }

    public static void main(String[] args) throws Exception {
        String readme = Files.readString(Path.of("README.md"));
        examples(readme);
        calls(readme);
        constants(readme);
        whatElseIsTold(readme);
        Due.end("ReadmeTest");
    }

    private static void examples(String readme) throws ReflectiveOperationException {
        Matcher block = Pattern.compile("(?s)```java\n(.*?)```").matcher(readme);
        int blocks = 0;
        while (block.find()) {
            blocks++;
            example(block.group(1));
        }
        Due.due("there are two examples", blocks, 2);
    }

    /** Each line makes the object or is a call with the answer that is told behind it. */
    private static void example(String lines) throws ReflectiveOperationException {
        OnceOnly x = null;
        for (String line : lines.split("\n")) {
            Matcher made = NEW.matcher(line);
            Matcher call = CALL.matcher(line);
            if (made.matches()) {
                x = new OnceOnly(Integer.parseInt(made.group(1)));
            } else if (call.matches() && x != null) {
                Due.due(line, answer(x, call.group(1), call.group(2).split(", ")), Long.parseLong(call.group(3)));
            } else {
                Due.due("can be read: " + line, 0, 1);
            }
        }
    }

    private static long answer(OnceOnly x, String name, String[] numbers) throws ReflectiveOperationException {
        Method method = method(name);
        Object[] given = new Object[numbers.length];
        for (int i = 0; i < given.length; i++) {
            boolean isLong = method.getParameterTypes()[i] == long.class;
            given[i] = isLong ? (Object) Long.valueOf(numbers[i]) : (Object) Integer.valueOf(numbers[i]);
        }
        return ((Number) method.invoke(x, given)).longValue();
    }

    private static Method method(String name) throws NoSuchMethodException {
        for (Method method : OnceOnly.class.getMethods()) if (method.getName().equals(name)) return method;
        throw new NoSuchMethodException(name);
    }

    /** A row of the table for each, with as many parameters as it has. */
    private static void calls(String readme) {
        for (Method method : OnceOnly.class.getDeclaredMethods()) {
            if (!Modifier.isPublic(method.getModifiers())) continue;
            String more = "(, \\w+){" + (method.getParameterCount() - 1) + "}";
            Matcher row = Pattern.compile("\n\\| `" + method.getName() + "\\(\\w+" + more + "\\)` \\|[^|]+\\|[^|]+\\|\n").matcher(readme);
            Due.due("a row for " + method.getName(), row.find() ? 1 : 0, 1);
        }
    }

    private static void constants(String readme) {
        told(readme, "| `BAD` | " + OnceOnly.BAD + " |");
        told(readme, "| `STATE` | " + OnceOnly.STATE + " |");
        told(readme, "| `FULL` | " + OnceOnly.FULL + " |");
        told(readme, "`NONE` (" + OnceOnly.NONE + ")");
        told(readme, "`OVER` (" + OnceOnly.OVER + ")");
    }

    private static void whatElseIsTold(String readme) throws IOException {
        told(readme, "good for 512 calls");
        told(readme, "what is refused changes nothing");
        told(readme, "bash .ci/run");
        try (var files = Files.newDirectoryStream(Path.of("src/test/java"), "*Test.java")) {
            for (Path file : files) told(readme, "`" + file.getFileName().toString().replace(".java", "") + "`");
        }
    }

    private static void told(String readme, String words) {
        Due.due("README tells " + words, readme.contains(words) ? 1 : 0, 1);
    }
}
