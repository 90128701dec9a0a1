import java.io.File;
import java.io.IOException;
import java.lang.reflect.InvocationTargetException;
import java.lang.reflect.Method;
import java.nio.file.Files;
import java.nio.file.Path;
import java.util.Arrays;
import java.util.HashMap;
import java.util.Map;
import java.util.regex.Matcher;
import java.util.regex.Pattern;

/** README.md's examples answer what it says behind each call, and it names all calls and tests. */
public final class ReadmeTest extends Checks {
    private static final Pattern BLOCK = Pattern.compile("```java\n(.*?)```", Pattern.DOTALL);
    private static final Pattern CALL = Pattern.compile(
            "(?:int (\\w+) = )?pool\\.(\\w+)\\((.*?)\\); +// (throws \\w+|-?\\w+).*");
    private static final String NEW = "PagePool pool = new PagePool();";

    public static void main(String[] args) throws IOException {
        String readme = Files.readString(Path.of("README.md"));
        int examples = 0;
        Matcher block = BLOCK.matcher(readme);
        while (block.find()) {
            examples++;
            runExample("example " + examples, block.group(1).split("\n"));
        }
        due("examples", examples, 2);
        dueNames(readme);
        end();
    }

    private static void runExample(String name, String[] lines) {
        about(name);
        due(lines[0], lines[0].equals(NEW), true);
        PagePool pool = new PagePool();
        Map<String, Integer> variables = new HashMap<>();
        for (int k = 1; k < lines.length; k++) {
            Matcher call = CALL.matcher(lines[k]);
            due(lines[k] + " is a call", call.matches(), true);
            if (call.matches()) {
                String got = answer(pool, call.group(2), numbers(call.group(3), variables));
                // Of a call without an answer the README tells only why it is made.
                due(lines[k] + " answered " + got, got.equals("null") || got.equals(call.group(4)), true);
                if (call.group(1) != null) {
                    variables.put(call.group(1), Integer.valueOf(got));
                }
            }
        }
    }

    private static Object[] numbers(String list, Map<String, Integer> variables) {
        if (list.isEmpty()) {
            return new Object[0];
        }
        String[] parts = list.split(", ");
        Object[] numbers = new Object[parts.length];
        for (int k = 0; k < parts.length; k++) {
            Integer known = variables.get(parts[k]);
            numbers[k] = known != null ? known : Integer.valueOf(parts[k]);
        }
        return numbers;
    }

    private static String answer(PagePool pool, String name, Object[] numbers) {
        Class<?>[] types = new Class<?>[numbers.length];
        Arrays.fill(types, int.class);
        try {
            return String.valueOf(PagePool.class.getMethod(name, types).invoke(pool, numbers));
        } catch (InvocationTargetException e) {
            return "throws " + e.getCause().getClass().getSimpleName();
        } catch (ReflectiveOperationException e) {
            return "no such call";
        }
    }

    private static void dueNames(String readme) {
        about("names");
        for (Method method : PagePool.class.getDeclaredMethods()) {
            if (java.lang.reflect.Modifier.isPublic(method.getModifiers())) {
                due(method.getName(), readme.contains("| `" + method.getName() + "("), true);
            }
        }
        due(".ci/run", readme.contains("    .ci/run\n"), true);
        for (File test : new File("src/test/java").listFiles()) {
            due(test.getName(), readme.contains("`" + test.getName().replace(".java", "") + "`"), true);
        }
    }
}
