import java.lang.reflect.Method;
import java.lang.reflect.Modifier;
import java.nio.charset.StandardCharsets;
import java.nio.file.Files;
import java.nio.file.Path;
import java.util.List;
import java.util.regex.Matcher;
import java.util.regex.Pattern;

/** README.md: its calls answer what stands behind them, and each call of the face stands on it. */
public final class ReadmeTest {
    private static final Pattern CALL = Pattern.compile("x\\.([A-Za-z]+)\\(([^)]*)\\); +// (true|false|-?[0-9]+)\\b.*");
    private static int wrong;

    private static void due(String what, boolean holds) {
        if (!holds) {
            wrong++;
            System.out.println("README.md: " + what);
        }
    }

    private static Method named(String name) {
        for (Method method : LoadsAhead.class.getMethods()) {
            if (method.getName().equals(name) && method.getDeclaringClass() == LoadsAhead.class) {
                return method;
            }
        }
        throw new IllegalStateException("no such call: " + name);
    }

    private static Object[] numbers(String told) {
        String[] each = told.isEmpty() ? new String[0] : told.split(", ");
        Object[] numbers = new Object[each.length];
        for (int i = 0; i < each.length; i++) {
            numbers[i] = Integer.decode(each[i]);
        }
        return numbers;
    }

    private static void example(List<String> lines) throws Exception {
        int begins = lines.indexOf("LoadsAhead x = new LoadsAhead();");
        due("the object of its example", begins > 0 && lines.get(begins - 1).equals("```java"));
        LoadsAhead x = new LoadsAhead();
        int calls = 0;
        for (int i = begins + 1; !lines.get(i).equals("```"); i++) {
            Matcher call = CALL.matcher(lines.get(i));
            if (!call.matches()) {
                due("no call with its answer: " + lines.get(i), false);
                continue;
            }
            Object got = named(call.group(1)).invoke(x, numbers(call.group(2)));
            due(lines.get(i) + " answered " + got, got.toString().equals(call.group(3)));
            calls++;
        }
        due("an example", calls > 0);
    }

    private static void everyCall(String text) {
        for (Method method : LoadsAhead.class.getDeclaredMethods()) {
            if (Modifier.isPublic(method.getModifiers())) {
                due("tells of " + method.getName(), text.contains("`" + method.getName() + "("));
            }
        }
        due("how the tests are run", text.contains("\n    .ci/run\n"));
    }

    private static void everyTest(String text) throws Exception {
        try (var files = Files.list(Path.of("src/test/java"))) {
            for (Path file : files.toList()) {
                String name = file.getFileName().toString().replace(".java", "");
                due("tells of " + name, !name.endsWith("Test") || text.contains("`" + name + "`"));
            }
        }
    }

    public static void main(String[] args) throws Exception {
        String text = Files.readString(Path.of("README.md"), StandardCharsets.UTF_8);
        example(text.lines().toList());
        everyCall(text);
        everyTest(text);
        System.out.println(wrong == 0 ? "README.md holds" : wrong + " things of README.md do not hold");
        if (wrong != 0) {
            System.exit(1);
        }
    }
}
