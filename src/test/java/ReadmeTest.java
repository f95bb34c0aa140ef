import java.io.IOException;
import java.lang.reflect.InvocationTargetException;
import java.lang.reflect.Method;
import java.nio.file.Files;
import java.nio.file.Path;
import java.util.ArrayList;
import java.util.List;
import java.util.regex.Matcher;
import java.util.regex.Pattern;

/** README.md: its example answers what stands behind each call, and its tables are those of the face. */
public final class ReadmeTest {
    /** A call with whole numbers, and the answer behind it. */
    private static final Pattern STEP = Pattern.compile(
        "rounds\\.(\\w+)\\(([-0-9, ]*)\\);\\s+// (throws \\w+|[-0-9.]+)(:.*)?");

    private static final Check check = new Check();

    public static void main(String[] args) throws IOException {
        List<String> lines = Files.readAllLines(Path.of("README.md"));
        example(lines);
        for (Method method : VendingRounds.class.getDeclaredMethods()) {
            if (java.lang.reflect.Modifier.isPublic(method.getModifiers())) {
                rowOf(method, lines);
            }
        }
        check.finish();
    }

    private static void example(List<String> lines) {
        int at = lines.indexOf("VendingRounds rounds = new VendingRounds();");
        VendingRounds rounds = new VendingRounds();
        int steps = 0;
        for (int k = at + 1; at >= 0 && !lines.get(k).equals("```"); k++) {
            Matcher step = STEP.matcher(lines.get(k));
            if (step.matches()) {
                steps++;
                String got = answer(rounds, step.group(1), step.group(2));
                if (!got.equals(step.group(3))) {
                    check.tell("README.md: " + lines.get(k) + " - answered: " + got);
                }
            } else {
                check.tell("README.md: not a call with its answer: " + lines.get(k));
            }
        }
        if (steps < 20) {
            check.tell("README.md: its example has only " + steps + " calls");
        }
    }

    private static String answer(VendingRounds rounds, String name, String arguments) {
        Method method = methodOf(name);
        List<Object> numbers = new ArrayList<>();
        for (String argument : arguments.isEmpty() ? new String[0] : arguments.split(", ")) {
            numbers.add(Integer.valueOf(argument));
        }
        if (method == null || method.getParameterCount() != numbers.size()) {
            return "no such call";
        }
        try {
            return String.valueOf(method.invoke(rounds, numbers.toArray()));
        } catch (InvocationTargetException e) {
            return "throws " + e.getCause().getClass().getSimpleName();
        } catch (IllegalAccessException e) {
            return "is not public";
        }
    }

    private static Method methodOf(String name) {
        for (Method method : VendingRounds.class.getDeclaredMethods()) {
            if (method.getName().equals(name)) {
                return method;
            }
        }
        return null;
    }

    /** The row of a call has as many parameters as the call, and names its exceptions in their order. */
    private static void rowOf(Method method, List<String> lines) {
        int rows = 0;
        for (String line : lines) {
            if (line.startsWith("| `" + method.getName() + "(")) {
                rows++;
                String parameters = line.substring(line.indexOf('(') + 1, line.indexOf(')'));
                int count = parameters.isEmpty() ? 0 : parameters.split(", ").length;
                check.due("README.md: the parameters of " + method.getName(), count, method.getParameterCount());
                check.due("README.md: the exceptions of " + method.getName() + " are those of the face",
                    namesInOrder(line).equals(exceptionsOf(method)) ? 1 : 0, 1);
            }
        }
        check.due("README.md: the rows for " + method.getName(), rows, 1);
    }

    private static List<String> namesInOrder(String line) {
        List<String> names = new ArrayList<>();
        Matcher name = Pattern.compile("`(IOOBE|IAE|ISE)` if").matcher(line);
        while (name.find()) {
            names.add(name.group(1));
        }
        return names;
    }

    private static List<String> exceptionsOf(Method method) {
        List<String> names = new ArrayList<>();
        for (Class<?> thrown : method.getExceptionTypes()) {
            names.add(thrown.getSimpleName().replaceAll("[a-z]", ""));
        }
        return names;
    }
}
