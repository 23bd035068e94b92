import java.io.IOException;
import java.lang.reflect.Method;
import java.lang.reflect.Modifier;
import java.nio.file.Files;
import java.nio.file.Path;
import java.util.Arrays;
import java.util.regex.Matcher;
import java.util.regex.Pattern;

/** README.md tells how the class is used: its example is run, and it names every call of the face. */
public final class ReadmeTest {
    private static final Pattern EXAMPLE = Pattern.compile("(?s)```java\n(.*?)```");
    private static final Pattern CALL = Pattern.compile("plans\\.(\\w+)\\(([^)]*)\\);\\s*// (-?\\d+)(:.*)?");
    private static final String FIRST_LINE = "PlanCopies plans = new PlanCopies();";

    private static int wrong = 0;

    public static void main(String[] args) throws IOException {
        String text = Files.readString(Path.of("README.md"));
        Matcher example = EXAMPLE.matcher(text);
        if (example.find()) {
            runExample(example.group(1).split("\n"));
        } else {
            tell("there is no example");
        }
        checkNames(text);
        System.out.println(wrong == 0 ? "README.md is right" : wrong + " things in README.md are wrong");
        if (wrong != 0) {
            System.exit(1);
        }
    }

    private static void tell(String what) {
        wrong++;
        System.out.println(what);
    }

    private static void runExample(String[] lines) {
        if (!lines[0].equals(FIRST_LINE)) {
            tell("the example begins otherwise: " + lines[0]);
        }
        PlanCopies plans = new PlanCopies();
        for (String line : Arrays.copyOfRange(lines, 1, lines.length)) {
            Matcher call = CALL.matcher(line);
            if (!call.matches()) {
                tell("no call with its answer: " + line);
                continue;
            }
            long got = answer(plans, call.group(1), call.group(2));
            if (got != Long.parseLong(call.group(3))) {
                tell("answered " + got + ": " + line);
            }
        }
    }

    private static long answer(PlanCopies plans, String name, String told) {
        String[] numbers = told.isEmpty() ? new String[0] : told.split(", ");
        for (Method method : PlanCopies.class.getMethods()) {
            if (method.getDeclaringClass() == PlanCopies.class && method.getName().equals(name)
                    && method.getParameterCount() == numbers.length) {
                return answer(plans, method, numbers);
            }
        }
        tell("there is no such call: " + name);
        return Long.MIN_VALUE;
    }

    private static long answer(PlanCopies plans, Method method, String[] numbers) {
        Object[] values = new Object[numbers.length];
        for (int i = 0; i < numbers.length; i++) {
            boolean isLong = method.getParameterTypes()[i] == long.class;
            values[i] = isLong ? (Object) Long.valueOf(numbers[i]) : (Object) Integer.valueOf(numbers[i]);
        }
        try {
            return ((Number) method.invoke(plans, values)).longValue();
        } catch (ReflectiveOperationException told) {
            tell(method.getName() + " can't be called: " + told);
            return Long.MIN_VALUE;
        }
    }

    private static void checkNames(String text) {
        for (Method method : PlanCopies.class.getDeclaredMethods()) {
            if (Modifier.isPublic(method.getModifiers()) && !text.contains("`" + method.getName() + "`")) {
                tell("not named: " + method.getName());
            }
        }
    }
}
