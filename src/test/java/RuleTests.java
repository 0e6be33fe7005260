import java.io.IOException;
import java.lang.reflect.Constructor;
import java.lang.reflect.Field;
import java.lang.reflect.Method;
import java.lang.reflect.Modifier;
import java.nio.file.Files;
import java.nio.file.Path;
import java.util.ArrayList;
import java.util.Arrays;
import java.util.HashSet;
import java.util.List;
import java.util.Set;
import java.util.TreeSet;
import java.util.regex.Matcher;
import java.util.regex.Pattern;

/** The document's face, and those rules of LANGUAGE.md that can be seen without reading code. */
public final class RuleTests {

    private static final Checks CHECKS = new Checks();
    private static final String[] FACE = {
        "boolean factor(int, int, long, long) throws ArrayIndexOutOfBoundsException, "
                + "IllegalArgumentException, ArithmeticException",
        "boolean right(int, long, long) throws IllegalArgumentException, ArithmeticException",
        "int run()",
        "int polynomials() throws IllegalStateException",
        "int answer(int, int) throws IllegalStateException, IllegalArgumentException",
        "boolean meets() throws IllegalStateException",
        "int powers() throws IllegalStateException",
        "int base(int) throws IllegalStateException",
        "int many(int) throws IllegalStateException",
        "int times(int, int, int) throws IllegalStateException, IllegalArgumentException",
        "boolean start(long)",
        "int value(int) throws IllegalArgumentException",
        "int singular(int)",
        "int end(int) throws IllegalArgumentException",
        "int rest(int) throws IllegalArgumentException",
        "boolean put(int, int) throws IllegalArgumentException",
        "void clear()",
    };

    public static void main(String[] args) throws IOException {
        face();
        insideClasses();
        text(Files.readString(Path.of("src/main/java/RecurrenceAnswers.java")));
        CHECKS.finish();
    }

    private static void face() {
        Class<?> outer = RecurrenceAnswers.class;
        CHECKS.equal("public and final", outer.getModifiers(), Modifier.PUBLIC | Modifier.FINAL);
        Set<String> open = new TreeSet<>();
        for (Method method : outer.getDeclaredMethods()) {
            if (!Modifier.isPrivate(method.getModifiers())) {
                CHECKS.equal(method + " is public", method.getModifiers(), Modifier.PUBLIC);
                open.add(described(method));
            }
        }
        Set<String> due = new TreeSet<>(Arrays.asList(FACE));
        CHECKS.yes("the face is " + open, open.equals(due));
        Constructor<?>[] constructors = outer.getDeclaredConstructors();
        CHECKS.equal("constructors", constructors.length, 1);
        CHECKS.equal("public", constructors[0].getModifiers(), Modifier.PUBLIC);
        CHECKS.yes("of an int",
                Arrays.equals(constructors[0].getParameterTypes(), new Class<?>[] {int.class}));
        for (Field field : outer.getDeclaredFields()) {
            CHECKS.yes(field + " is private", Modifier.isPrivate(field.getModifiers()));
        }
    }

    private static String described(Method method) {
        String text = method.getReturnType() + " " + method.getName() + "("
                + joined(method.getParameterTypes()) + ")";
        Class<?>[] thrown = method.getExceptionTypes();
        return thrown.length == 0 ? text : text + " throws " + joined(thrown);
    }

    private static String joined(Class<?>[] types) {
        List<String> names = new ArrayList<>();
        for (Class<?> type : types) {
            names.add(type.getSimpleName());
        }
        return String.join(", ", names);
    }

    private static void insideClasses() {
        Set<String> faceNames = new HashSet<>();
        for (Method method : RecurrenceAnswers.class.getMethods()) {
            faceNames.add(method.getName());
        }
        List<Class<?>> all = new ArrayList<>();
        all.add(RecurrenceAnswers.class);
        all.addAll(Arrays.asList(RecurrenceAnswers.class.getDeclaredClasses()));
        CHECKS.yes("at most twelve classes", all.size() <= 12);
        for (Class<?> each : all) {
            if (each != RecurrenceAnswers.class) {
                CHECKS.yes(each + " is static", Modifier.isStatic(each.getModifiers()));
            }
            int fields = 0;
            for (Field field : each.getDeclaredFields()) {
                boolean constant = Modifier.isStatic(field.getModifiers());
                fields += constant ? 0 : 1;
                CHECKS.yes(field + " is a constant", !constant
                        || Modifier.isFinal(field.getModifiers()) && field.getType() == int.class);
            }
            CHECKS.yes(each + " has at most twenty fields", fields <= 20);
            for (Method method : each.getDeclaredMethods()) {
                CHECKS.yes(method + " takes at most seven", method.getParameterCount() <= 7);
                CHECKS.no(method + " bears a name of the face",
                        !Modifier.isPublic(method.getModifiers())
                        && faceNames.contains(method.getName()));
            }
        }
    }

    private static void text(String source) {
        String code = source.replaceAll("(?s)/\\*.*?\\*/", "").replaceAll("//[^\n]*", "")
                .replaceAll("\"[^\"\n]*\"", "\"\"");
        String[] ruledOut = {"package", "import", "try", "catch", "finally", "synchronized",
            "assert", "double", "float", "instanceof", "->", "::", "Exact", "System.out",
            "nanoTime", "currentTimeMillis", "Random", "Thread", "static {"};
        for (String word : ruledOut) {
            String edge = Character.isLetter(word.charAt(0)) ? "\\b" : "";
            boolean there = Pattern.compile(edge + Pattern.quote(word) + "(?![a-z])")
                    .matcher(code).find();
            CHECKS.no("the code has " + word, there);
        }
        Set<String> thrown = new TreeSet<>();
        Matcher throwing = Pattern.compile("\\bthrow\\b\\s+(\\S+\\s+\\w+)").matcher(code);
        while (throwing.find()) {
            thrown.add(throwing.group(1));
        }
        Set<String> due = new TreeSet<>(Arrays.asList("new ArrayIndexOutOfBoundsException",
                "new IllegalArgumentException", "new IllegalStateException",
                "new ArithmeticException"));
        CHECKS.yes("it throws " + thrown, thrown.equals(due));
        CHECKS.yes("plain characters", source.chars().allMatch(c -> c == '\n' || c >= 32 && c < 127));
    }
}
