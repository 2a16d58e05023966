import java.io.IOException;
import java.lang.reflect.InvocationTargetException;
import java.lang.reflect.Method;
import java.nio.file.Files;
import java.nio.file.Path;
import java.util.TreeSet;
import java.util.regex.Matcher;
import java.util.regex.Pattern;

/** The examples of README.md: each call in them answers what stands behind it. */
public final class HandlingRulesReadmeTest {
    private static final Pattern MADE = Pattern.compile("HandlingRules rules = new HandlingRules\\((-?\\d+)\\);.*");
    private static final Pattern CALL =
        Pattern.compile("rules\\.(\\w+)\\(([-\\d, ]*)\\); *// (-?\\d+|throws \\w+|true|false)(:.*)?");

    private static HandlingRules rules = new HandlingRules(1);
    private static int calls = 0;
    private static int wrong = 0;

    private static void complain(String line, String what) {
        wrong++;
        System.out.println("README.md: " + line + " " + what);
    }

    private static Method methodOf(String name) {
        for (Method m : HandlingRules.class.getDeclaredMethods()) {
            if (m.getName().equals(name)) {
                return m;
            }
        }
        throw new IllegalArgumentException("no method " + name);
    }

    private static Object[] numbersFor(Method m, String text) {
        String[] parts = text.split(", *");
        Class<?>[] types = m.getParameterTypes();
        Object[] numbers = new Object[parts.length];
        for (int i = 0; i < parts.length; i++) {
            long n = Long.parseLong(parts[i]);
            if (i < types.length && types[i] == int.class) {
                numbers[i] = (int) n;
            } else {
                numbers[i] = n;
            }
        }
        return numbers;
    }

    private static String answerOf(String name, String numbers) throws IllegalAccessException {
        Method m = methodOf(name);
        try {
            return String.valueOf(m.invoke(rules, numbersFor(m, numbers)));
        } catch (InvocationTargetException e) {
            return "throws " + e.getCause().getClass().getSimpleName();
        }
    }

    private static void follow(String line, TreeSet<String> unused) throws IllegalAccessException {
        Matcher made = MADE.matcher(line);
        Matcher call = CALL.matcher(line);
        if (made.matches()) {
            rules = new HandlingRules(Integer.parseInt(made.group(1)));
        } else if (call.matches()) {
            calls++;
            unused.remove(call.group(1));
            String got = answerOf(call.group(1), call.group(2));
            if (!got.equals(call.group(3))) {
                complain(line, "answered " + got);
            }
        } else {
            complain(line, "is no call with its answer");
        }
    }

    public static void main(String[] args) throws IOException, IllegalAccessException {
        TreeSet<String> unused = new TreeSet<>();
        for (Method m : HandlingRules.class.getMethods()) {
            if (m.getDeclaringClass() == HandlingRules.class) {
                unused.add(m.getName());
            }
        }
        boolean inside = false;
        for (String line : Files.readAllLines(Path.of("README.md"))) {
            boolean fence = line.startsWith("```");
            if (inside && !fence) {
                follow(line, unused);
            }
            inside = fence ? line.equals("```java") : inside;
        }
        if (!unused.isEmpty()) {
            complain("the examples", "do without " + unused);
        }
        System.out.println(calls + " calls of README.md, " + wrong + " of them not as due");
        if (wrong != 0) {
            System.exit(1);
        }
    }
}
