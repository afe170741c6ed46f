import java.io.IOException;
import java.lang.reflect.InvocationTargetException;
import java.lang.reflect.Method;
import java.lang.reflect.Modifier;
import java.nio.file.Files;
import java.nio.file.Path;
import java.util.HashMap;
import java.util.Map;
import java.util.Set;
import java.util.TreeSet;
import java.util.regex.Matcher;
import java.util.regex.Pattern;

/** Carries out the examples of README.md, call by call: each must answer what stands behind it. */
public final class ReadmeTest {
    private static final Pattern MAKING = Pattern.compile("LayerBudgets budgets = new LayerBudgets\\(\\);");
    private static final Pattern CALL =
        Pattern.compile("(?:(?:int|long) (\\w+) = )?budgets\\.(\\w+)\\((.*)\\); +// ([^:]+)(?:: .*)?");

    private static final Map<String, Long> named = new HashMap<>();
    private static final Set<String> shown = new TreeSet<>();
    private static LayerBudgets budgets = null;
    private static int wrong = 0;

    private static void fault(int line, String what) {
        wrong++;
        System.out.println("README.md, line " + line + ": " + what);
    }

    private static Method methodOf(String name) {
        for (Method method : LayerBudgets.class.getDeclaredMethods()) {
            if (Modifier.isPublic(method.getModifiers()) && method.getName().equals(name)) {
                return method;
            }
        }
        return null;
    }

    private static long valueOf(String text) {
        if (text.equals("LayerBudgets.NONE")) {
            return LayerBudgets.NONE;
        }
        return named.containsKey(text) ? named.get(text) : Long.parseLong(text);
    }

    private static Object[] argumentsOf(Method method, String text) {
        String[] parts = text.isEmpty() ? new String[0] : text.split(", ");
        Object[] arguments = new Object[parts.length];
        for (int i = 0; i < parts.length; i++) {
            long value = valueOf(parts[i]);
            boolean isLong = i < method.getParameterCount() && method.getParameterTypes()[i] == long.class;
            arguments[i] = isLong ? (Object) value : (Object) Math.toIntExact(value);
        }
        return arguments;
    }

    private static String answered(Method method, Object[] arguments) throws IllegalAccessException {
        try {
            Object answer = method.invoke(budgets, arguments);
            return answer == null ? "nothing" : answer.toString();
        } catch (InvocationTargetException e) {
            return "throws " + e.getCause().getClass().getSimpleName();
        }
    }

    private static void carryOut(int line, Matcher call) throws IllegalAccessException {
        Method method = methodOf(call.group(2));
        if (method == null) {
            fault(line, "there is no " + call.group(2));
            return;
        }
        shown.add(method.getName());
        String got = answered(method, argumentsOf(method, call.group(3)));
        if (!got.equals(call.group(4))) {
            fault(line, "shown is " + call.group(4) + ", the class answers " + got);
        } else if (call.group(1) != null) {
            named.put(call.group(1), Long.valueOf(got));
        }
    }

    private static void carryOut(int line, String text) throws IllegalAccessException {
        Matcher call = CALL.matcher(text);
        if (MAKING.matcher(text).matches()) {
            budgets = new LayerBudgets();
            named.clear();
        } else if (call.matches() && budgets != null) {
            carryOut(line, call);
        } else if (!text.isEmpty()) {
            fault(line, "neither a new object nor a call with its answer");
        }
    }

    private static void carryOutExamples() throws IOException, IllegalAccessException {
        boolean inExample = false;
        int line = 0;
        for (String text : Files.readAllLines(Path.of("README.md"))) {
            line++;
            if (text.startsWith("```")) {
                inExample = text.equals("```java");
                budgets = null;
            } else if (inExample) {
                carryOut(line, text);
            }
        }
    }

    private static void everyMethodIsShown() {
        for (Method method : LayerBudgets.class.getDeclaredMethods()) {
            if (Modifier.isPublic(method.getModifiers()) && !shown.contains(method.getName())) {
                wrong++;
                System.out.println("README.md shows no call of " + method.getName());
            }
        }
    }

    public static void main(String[] args) throws IOException, IllegalAccessException {
        carryOutExamples();
        everyMethodIsShown();
        System.out.println(wrong == 0 ? "all answers shown are right" : wrong + " faults in README.md");
        if (wrong != 0) {
            System.exit(1);
        }
    }
}
