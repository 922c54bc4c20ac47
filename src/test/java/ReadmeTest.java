import java.lang.reflect.InvocationTargetException;
import java.lang.reflect.Method;
import java.nio.file.Files;
import java.nio.file.Path;
import java.util.HashMap;
import java.util.Map;
import java.util.regex.Matcher;
import java.util.regex.Pattern;

/** Each call of the example in README.md answers what is written behind it. */
public final class ReadmeTest {
    private static final Path README = Path.of("README.md");
    private static final String MADE = "SignMasons masons = new SignMasons();";
    private static final Pattern CALL =
            Pattern.compile("(?:int (\\w+) = )?masons\\.(\\w+)\\((.*?)\\); +// (throws \\w+|[-.\\d]+)(?:: .*)?");

    private final SignMasons masons = new SignMasons();
    private final Map<String, Integer> named = new HashMap<>();
    private int calls = 0;
    private int wrong = 0;

    private ReadmeTest() {
    }

    private void report(String line, String what) {
        wrong++;
        System.out.println("README.md: " + line + " - " + what);
    }

    private static Method method(String name) {
        for (Method method : SignMasons.class.getMethods()) {
            if (method.getName().equals(name) && method.getDeclaringClass() == SignMasons.class) {
                return method;
            }
        }
        throw new IllegalStateException("the class has no " + name);
    }

    private Object[] arguments(String written) {
        String[] parts = written.isEmpty() ? new String[0] : written.split(", ");
        Object[] values = new Object[parts.length];
        for (int i = 0; i < parts.length; i++) {
            values[i] = named.containsKey(parts[i]) ? named.get(parts[i]) : Integer.valueOf(parts[i]);
        }
        return values;
    }

    private void take(String line) throws IllegalAccessException {
        Matcher call = CALL.matcher(line);
        if (!call.matches()) {
            report(line, "not a call with its answer");
            return;
        }
        calls++;
        String got;
        try {
            Object answer = method(call.group(2)).invoke(masons, arguments(call.group(3)));
            got = String.valueOf(answer);
            if (call.group(1) != null) {
                named.put(call.group(1), (Integer) answer);
            }
        } catch (InvocationTargetException e) {
            got = "throws " + e.getCause().getClass().getSimpleName();
        }
        if (!got.equals(call.group(4))) {
            report(line, "answered " + got);
        }
    }

    public static void main(String[] args) throws Exception {
        ReadmeTest test = new ReadmeTest();
        boolean inside = false;
        boolean made = false;
        for (String line : Files.readAllLines(README)) {
            if (line.startsWith("```")) {
                inside = line.equals("```java");
            } else if (inside && line.equals(MADE)) {
                made = true;
            } else if (inside && !line.isEmpty()) {
                test.take(line);
            }
        }
        if (!made || test.calls == 0) {
            test.report("the example", "not found");
        }
        System.out.println(test.calls + " calls of README.md, "
                + (test.wrong == 0 ? "all as written there" : test.wrong + " faults"));
        if (test.wrong != 0) {
            System.exit(1);
        }
    }
}
