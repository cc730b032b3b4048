import java.io.IOException;
import java.lang.reflect.InvocationTargetException;
import java.lang.reflect.Method;
import java.lang.reflect.Modifier;
import java.nio.file.Files;
import java.nio.file.Path;
import java.util.Arrays;
import java.util.regex.Matcher;
import java.util.regex.Pattern;

/** README.md's examples answer what stands behind them, and it tells of every call. */
public final class ReadmeTest {
    private static final Pattern BLOCK = Pattern.compile("(?s)```java\n(.*?)```");
    private static final Pattern CALL = Pattern.compile("x\\.(\\w+)\\(([^)]*)\\);\\s+// (-?\\w+)(:.*)?");
    private static final String NEW = "ScaffoldReasons x = new ScaffoldReasons();";
    private static final Method[] FACE = Arrays.stream(ScaffoldReasons.class.getDeclaredMethods())
            .filter(m -> Modifier.isPublic(m.getModifiers())).toArray(Method[]::new);
    private static int asked;
    private static int wrong;

    private ReadmeTest() { }

    private static void complain(String what) {
        wrong++;
        System.out.println(what);
    }

    public static void main(String[] args) throws IOException, ReflectiveOperationException {
        String readme = Files.readString(Path.of("README.md"));
        Matcher blocks = BLOCK.matcher(readme);
        while (blocks.find()) {
            runExample(blocks.group(1).split("\n"));
        }
        if (asked == 0) {
            complain("README.md has no examples");
        }
        for (Method method : FACE) {
            if (!readme.contains("`" + method.getName() + "`")) {
                complain("README.md doesn't tell of " + method.getName());
            }
        }
        System.out.println(asked + " answers of README.md, " + wrong + " not as due");
        if (wrong != 0) {
            System.exit(1);
        }
    }

    private static void runExample(String[] lines) throws ReflectiveOperationException {
        if (!lines[0].equals(NEW)) {
            complain("an example doesn't begin with a new object: " + lines[0]);
            return;
        }
        ScaffoldReasons x = new ScaffoldReasons();
        for (int i = 1; i < lines.length; i++) {
            Matcher call = CALL.matcher(lines[i]);
            if (!call.matches()) {
                complain("no call with its answer: " + lines[i]);
                continue;
            }
            asked++;
            String got = answer(x, call.group(1), call.group(2));
            if (!got.equals(call.group(3))) {
                complain(lines[i] + " (answered " + got + ")");
            }
        }
    }

    private static String answer(ScaffoldReasons x, String name, String arguments) throws ReflectiveOperationException {
        Method method = Arrays.stream(FACE).filter(m -> m.getName().equals(name)).findFirst().orElseThrow(
                () -> new NoSuchMethodException(name));
        String[] words = arguments.isEmpty() ? new String[0] : arguments.split(", ");
        Object[] values = new Object[words.length];
        for (int i = 0; i < words.length; i++) {
            values[i] = words[i].matches("true|false") ? (Object) Boolean.valueOf(words[i]) : (Object) Integer.decode(words[i]);
        }
        try {
            return String.valueOf(method.invoke(x, values));
        } catch (InvocationTargetException e) {
            return "threw " + e.getCause();
        }
    }
}
