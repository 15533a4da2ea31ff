import java.io.IOException;
import java.lang.reflect.Method;
import java.lang.reflect.Modifier;
import java.nio.file.Files;
import java.nio.file.Path;
import java.util.regex.Matcher;
import java.util.regex.Pattern;

/** README.md: its example is called line by line, so that it can't tell what is no longer so. */
public final class ReadmeTest {
    private static final Pattern CALL = Pattern.compile("((?:int|boolean) \\w+ = )?x\\.(\\w+)\\((.*?)\\);\\s*//\\s*(\\w+).*");

    private ReadmeTest() { }

    public static void main(String[] args) throws IOException, ReflectiveOperationException {
        Due due = new Due();
        String readme = Files.readString(Path.of("README.md"));
        example(due, readme);
        everyMethodIsTold(due, readme);
        due.end("ReadmeTest");
    }

    private static void example(Due due, String readme) throws ReflectiveOperationException {
        String example = readme.split("```java\n")[1].split("```")[0];
        String[] lines = example.split("\n");
        due.same("the example makes an object", lines[0].startsWith("ImageChecker x = new ImageChecker();") ? 1 : 0, 1);
        ImageChecker x = new ImageChecker();
        for (int i = 1; i < lines.length; i++) {
            Matcher call = CALL.matcher(lines[i]);
            due.same("a call stands in: " + lines[i], call.matches() ? 1 : 0, 1);
            if (call.matches()) {
                line(due, x, call);
            }
        }
    }

    private static void line(Due due, ImageChecker x, Matcher call) throws ReflectiveOperationException {
        Method method = methodNamed(call.group(2));
        Object answer = method.invoke(x, values(method, call.group(3)));
        if (call.group(1) != null) {
            due.same(call.group() + " (answered " + answer + ")", answer.toString().equals(call.group(4)) ? 1 : 0, 1);
        }
    }

    private static Method methodNamed(String name) throws NoSuchMethodException {
        for (Method method : ImageChecker.class.getDeclaredMethods()) {
            if (method.getName().equals(name) && Modifier.isPublic(method.getModifiers())) {
                return method;
            }
        }
        throw new NoSuchMethodException(name);
    }

    private static Object[] values(Method method, String written) {
        String[] words = written.isEmpty() ? new String[0] : written.split(", ");
        Object[] values = new Object[words.length];
        for (int i = 0; i < words.length; i++) {
            Class<?> type = method.getParameterTypes()[i];
            if (type == boolean.class) {
                values[i] = Boolean.valueOf(words[i]);
            } else if (type == long.class) {
                values[i] = Long.decode(words[i]);
            } else {
                values[i] = Integer.decode(words[i]);
            }
        }
        return values;
    }

    private static void everyMethodIsTold(Due due, String readme) {
        for (Method method : ImageChecker.class.getDeclaredMethods()) {
            if (Modifier.isPublic(method.getModifiers())) {
                String told = "\n(\\| )?`" + method.getName() + "\\(";
                due.same("README.md tells " + method.getName() + "()", Pattern.compile(told).matcher(readme).find() ? 1 : 0, 1);
            }
        }
    }
}
