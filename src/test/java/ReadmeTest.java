import java.io.IOException;
import java.lang.reflect.Method;
import java.lang.reflect.Modifier;
import java.nio.file.Files;
import java.nio.file.Path;
import java.util.Set;
import java.util.TreeSet;
import java.util.regex.Matcher;
import java.util.regex.Pattern;

/** README.md: each of its examples is asked, in their order, and each call and each refusal is told. */
public final class ReadmeTest {
    private static final Checks CHECKS = new Checks();

    private static final Pattern EXAMPLE =
        Pattern.compile("land\\.(\\w+)\\((.*)\\); +// (-?\\d+)( \\((\\w+)\\))?(: .*)?");
    private static final Pattern TEXT = Pattern.compile("write\\(land, \"(.*)\"\\);");
    private static final Pattern CALL = Pattern.compile("\\| `(\\w+)\\((.*)\\)` \\| .* \\|");
    private static final Pattern NUMBER = Pattern.compile("\\| `([A-Z]+)` \\| (-\\d) \\| .* \\|");
    /** The one piece of the page that is no example: it is what Checks.rewrite does. */
    private static final String WRITE = """
        ```java
        /** Writes a text in place of the one that was there. */
        static void write(KnowsBetter land, String text) {
            land.wipe();
            for (int i = 0; i < text.length(); i++) {
                land.write(text.charAt(i));
            }
        }
        ```
        """;

    private static KnowsBetter land = new KnowsBetter();
    private static final Set<String> SHOWN = new TreeSet<>(), TOLD = new TreeSet<>(), NAMED = new TreeSet<>();

    public static void main(String[] args) throws IOException, ReflectiveOperationException {
        String page = Files.readString(Path.of("README.md"));
        CHECKS.due("the page has the helper", page.contains(WRITE) ? 1 : 0, 1);
        boolean shown = false;
        for (String line : page.replace(WRITE, "").lines().toList()) {
            if (line.startsWith("```")) {
                shown = line.equals("```java");
            } else if (shown) {
                example(line);
            } else {
                row(line);
            }
        }
        Set<String> calls = new TreeSet<>();
        for (Method method : KnowsBetter.class.getDeclaredMethods()) {
            if (Modifier.isPublic(method.getModifiers())) {
                calls.add(method.getName());
            }
        }
        CHECKS.due("calls told: " + TOLD, TOLD.equals(calls) ? 1 : 0, 1);
        CHECKS.due("calls shown: " + SHOWN, SHOWN.equals(calls) ? 1 : 0, 1);
        CHECKS.due("constants told: " + NAMED, NAMED.size(), 5);
        CHECKS.end("ReadmeTest");
    }

    private static void example(String line) throws ReflectiveOperationException {
        Matcher example = EXAMPLE.matcher(line);
        Matcher text = TEXT.matcher(line);
        if (example.matches()) {
            long want = Long.parseLong(example.group(3));
            CHECKS.due(line, ask(example.group(1), example.group(2)), want);
            if (example.group(5) != null) {
                CHECKS.due(line, KnowsBetter.class.getField(example.group(5)).getInt(null), want);
            }
        } else if (text.matches()) {
            Checks.rewrite(land, text.group(1));
        } else if (line.equals("KnowsBetter land = new KnowsBetter();")) {
            land = new KnowsBetter();
        } else {
            CHECKS.due("not to be understood: " + line, 0, 1);
        }
    }

    private static long ask(String name, String arguments) throws ReflectiveOperationException {
        SHOWN.add(name);
        Method method = method(name);
        Class<?>[] types = method.getParameterTypes();
        String[] told = split(arguments);
        Object[] with = new Object[told.length];
        for (int i = 0; i < with.length; i++) {
            with[i] = argument(told[i], i < types.length ? types[i] : int.class);
        }
        return ((Number) method.invoke(land, with)).longValue();
    }

    private static String[] split(String arguments) {
        return arguments.isEmpty() ? new String[0] : arguments.split(", ");
    }

    private static Object argument(String told, Class<?> type) {
        if (type == boolean.class) {
            return Boolean.valueOf(told);
        }
        if (type == long.class) {
            return Long.valueOf(told);
        }
        return told.startsWith("'") ? Integer.valueOf(told.charAt(1)) : Integer.valueOf(told);
    }

    private static Method method(String name) throws NoSuchMethodException {
        for (Method method : KnowsBetter.class.getMethods()) {
            if (method.getName().equals(name)) {
                return method;
            }
        }
        throw new NoSuchMethodException(name);
    }

    private static void row(String line) throws ReflectiveOperationException {
        Matcher call = CALL.matcher(line);
        Matcher number = NUMBER.matcher(line);
        if (call.matches()) {
            TOLD.add(call.group(1));
            CHECKS.due("parameters of " + call.group(1), split(call.group(2)).length,
                method(call.group(1)).getParameterCount());
        } else if (number.matches()) {
            NAMED.add(number.group(1));
            CHECKS.due(number.group(1), KnowsBetter.class.getField(number.group(1)).getInt(null),
                Integer.parseInt(number.group(2)));
        }
    }
}
