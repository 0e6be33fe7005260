import java.io.IOException;
import java.lang.reflect.InvocationTargetException;
import java.lang.reflect.Method;
import java.lang.reflect.Modifier;
import java.nio.file.Files;
import java.nio.file.Path;
import java.util.HashMap;
import java.util.Map;
import java.util.regex.Matcher;
import java.util.regex.Pattern;

/** README.md names every call, and its examples answer what they say that they answer. */
public final class ReadmeTests {

    private static final Checks CHECKS = new Checks();
    private static final Pattern MAKING =
            Pattern.compile("RecurrenceAnswers x = new RecurrenceAnswers\\((-?\\d+)\\);.*");
    private static final Pattern CALL = Pattern.compile("x\\.(\\w+)\\(([^)]*)\\);\\s*(//.*)?");
    /** An example's comment that tells an answer begins with it. */
    private static final Pattern TOLD =
            Pattern.compile("// (-?\\d+|true|false|\\w+Exception)([:,].*)?");

    private final Map<String, Method> face = new HashMap<>();
    private RecurrenceAnswers x = new RecurrenceAnswers(1);
    private int told;

    private ReadmeTests() {
        for (Method method : RecurrenceAnswers.class.getDeclaredMethods()) {
            if (Modifier.isPublic(method.getModifiers())) {
                face.put(method.getName(), method);
            }
        }
    }

    public static void main(String[] args) throws IOException {
        String readme = Files.readString(Path.of("README.md"));
        ReadmeTests tests = new ReadmeTests();
        tests.examples(readme);
        for (String name : tests.face.keySet()) {
            CHECKS.yes("README.md tells of " + name, readme.contains("`" + name + "("));
        }
        CHECKS.yes("README.md tells how to run the tests", readme.contains(".ci/run"));
        CHECKS.finish();
    }

    private void examples(String readme) {
        Matcher block = Pattern.compile("(?s)```java\n(.*?)```").matcher(readme);
        while (block.find()) {
            for (String line : block.group(1).split("\n")) {
                example(line);
            }
        }
        CHECKS.yes("the examples tell answers", told >= 20);
    }

    private void example(String line) {
        Matcher making = MAKING.matcher(line);
        if (making.matches()) {
            x = new RecurrenceAnswers(Integer.parseInt(making.group(1)));
            return;
        }
        Matcher call = CALL.matcher(line);
        boolean known = call.matches() && face.containsKey(call.group(1));
        CHECKS.yes("an example's line: " + line, known);
        if (!known) {
            return;
        }
        String got = outcome(face.get(call.group(1)), call.group(2));
        Matcher due = TOLD.matcher(call.group(3) == null ? "" : call.group(3));
        if (due.matches()) {
            CHECKS.same(line, got, due.group(1));
            told++;
        }
    }

    private String outcome(Method method, String arguments) {
        String[] words = arguments.isEmpty() ? new String[0] : arguments.split(", ");
        Class<?>[] types = method.getParameterTypes();
        Object[] values = new Object[words.length];
        try {
            for (int i = 0; i < words.length && i < types.length; i++) {
                if (types[i] == long.class) {
                    values[i] = Long.valueOf(words[i]);
                } else {
                    values[i] = Integer.valueOf(words[i]);
                }
            }
            return String.valueOf(method.invoke(x, values));
        } catch (InvocationTargetException e) {
            return e.getCause().getClass().getSimpleName();
        } catch (IllegalAccessException | IllegalArgumentException e) {
            return "no such call: " + e;
        }
    }
}
