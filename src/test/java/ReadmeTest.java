import java.io.File;
import java.io.IOException;
import java.lang.reflect.InvocationTargetException;
import java.lang.reflect.Method;
import java.nio.file.Files;
import java.nio.file.Path;
import java.util.ArrayList;
import java.util.HashMap;
import java.util.List;
import java.util.Map;
import java.util.TreeSet;
import java.util.regex.Matcher;
import java.util.regex.Pattern;

/** README.md: each call that it shows is made, and must answer what is shown; each call of the face and each test is in it. */
public final class ReadmeTest {
    private static final String BEGIN = "```java";
    private static final String END = "```";
    private static final String MADE = "TheodoliteRow row = new TheodoliteRow();";
    /** A call with what it answers, as in: int a = row.station(); // 0: the first one */
    private static final Pattern CALL =
            Pattern.compile("(?:(\\w+) (\\w+) = )?row\\.(\\w+)\\(([^()]*)\\);\\s+// ([^:]+)(?:: .+)?");
    private static final Pattern NAMED_TEST = Pattern.compile("(?m)^\\| `(\\w+Test)` \\|");

    private final Map<String, Object> named = new HashMap<>();
    private final TreeSet<String> shown = new TreeSet<>();
    private TheodoliteRow row;

    public static void main(String[] args) throws IOException {
        List<String> readme = Files.readAllLines(Path.of("README.md"));
        new ReadmeTest().callsShown(readme);
        testsNamed(String.join("\n", readme));
        Expect.finish("ReadmeTest");
    }

    private void callsShown(List<String> readme) {
        boolean isShown = false;
        for (String line : readme) {
            if (isShown && !line.isBlank() && !line.startsWith(END)) {
                lineShown(line.strip());
            }
            isShown = line.equals(BEGIN) || isShown && !line.startsWith(END);
        }
        TreeSet<String> face = new TreeSet<>();
        for (Method method : TheodoliteRow.class.getMethods()) {
            if (method.getDeclaringClass() == TheodoliteRow.class) {
                face.add(method.getName());
            }
        }
        Expect.due("the calls that are shown", face, () -> shown);
    }

    private void lineShown(String line) {
        if (line.equals(MADE)) {
            row = new TheodoliteRow();
            named.clear();
            return;
        }
        Matcher call = CALL.matcher(line);
        Expect.due("a call with its answer is told by '" + line + "'", true, call::matches);
        if (call.matches()) {
            Expect.due("README.md: " + line, call.group(5), () -> answerOf(call));
        }
    }

    private String answerOf(Matcher call) {
        Method method = methodOf(call.group(3));
        if (method == null || row == null) {
            return "there is no such call, or no object";
        }
        if (call.group(1) != null && !call.group(1).equals(method.getReturnType().getName())) {
            return "an answer of the type " + method.getReturnType();
        }
        shown.add(method.getName());
        try {
            Object answer = method.invoke(row, arguments(call.group(4)));
            if (call.group(2) != null) {
                named.put(call.group(2), answer);
            }
            return String.valueOf(answer);
        } catch (InvocationTargetException thrown) {
            return "throws " + thrown.getCause().getClass().getSimpleName();
        } catch (IllegalAccessException | IllegalArgumentException other) {
            return "it does not take these arguments";
        }
    }

    private static Method methodOf(String name) {
        for (Method method : TheodoliteRow.class.getMethods()) {
            if (method.getDeclaringClass() == TheodoliteRow.class && method.getName().equals(name)) {
                return method;
            }
        }
        return null;
    }

    private Object[] arguments(String told) {
        List<Object> arguments = new ArrayList<>();
        for (String one : told.isEmpty() ? new String[0] : told.split(", ")) {
            if (one.equals("true") || one.equals("false")) {
                arguments.add(Boolean.valueOf(one));
            } else {
                arguments.add(named.containsKey(one) ? named.get(one) : (Object) Integer.valueOf(one));
            }
        }
        return arguments.toArray();
    }

    private static void testsNamed(String readme) {
        TreeSet<String> tests = new TreeSet<>();
        for (String file : new File("src/test/java").list()) {
            if (file.endsWith("Test.java")) {
                tests.add(file.substring(0, file.length() - ".java".length()));
            }
        }
        TreeSet<String> inTable = new TreeSet<>();
        Matcher found = NAMED_TEST.matcher(readme);
        while (found.find()) {
            inTable.add(found.group(1));
        }
        Expect.due("the tests in README.md's table", tests, () -> inTable);
    }
}
