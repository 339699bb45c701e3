import java.io.IOException;
import java.lang.reflect.InvocationTargetException;
import java.lang.reflect.Method;
import java.lang.reflect.Modifier;
import java.nio.file.Files;
import java.nio.file.Path;
import java.util.ArrayList;
import java.util.List;
import java.util.regex.Matcher;
import java.util.regex.Pattern;
import java.util.stream.Stream;

/** README.md: its example is run line by line, and its tables are held against the class and the tests. */
public final class ReadmeTest {
    private static final Check CHECK = new Check("ReadmeTest");
    private static final String MAKING = "ReversalDesk desk = new ReversalDesk();";
    private static final Pattern CALL = Pattern.compile("desk\\.(\\w+)\\((.*)\\); +// (.*)");

    public static void main(String[] args) throws IOException, IllegalAccessException {
        List<String> lines = Files.readAllLines(Path.of("README.md"));
        runExample(lines);
        for (Method method : ReversalDesk.class.getDeclaredMethods()) {
            if (Modifier.isPublic(method.getModifiers())) {
                findInCallTable(lines, method);
            }
        }
        CHECK.yes("README.md names .ci/run", lines.contains(".ci/run"));
        findTests(lines);
        CHECK.end();
    }

    private static void runExample(List<String> lines) throws IllegalAccessException {
        int from = lines.indexOf("```java") + 1;
        CHECK.same("the example's first line", lines.get(from), MAKING);
        ReversalDesk desk = new ReversalDesk();
        List<String> called = new ArrayList<>();
        for (String line : lines.subList(from + 1, lines.size())) {
            if (line.equals("```")) {
                break;
            }
            Matcher call = CALL.matcher(line);
            CHECK.yes("a line of the example is a call: " + line, call.matches());
            if (call.matches()) {
                called.add(call.group(1));
                CHECK.same(line, answer(desk, call.group(1), call.group(2)), call.group(3).split(":")[0]);
            }
        }
        for (Method method : ReversalDesk.class.getDeclaredMethods()) {
            if (Modifier.isPublic(method.getModifiers())) {
                CHECK.yes("the example has " + method.getName(), called.contains(method.getName()));
            }
        }
    }

    /** As the example writes it: -1 is NONE where it tells of none, and a gene where one is asked for. */
    private static String answer(ReversalDesk desk, String name, String written) throws IllegalAccessException {
        Method method = methodNamed(name);
        if (method == null) {
            return "no such method";
        }
        try {
            Object got = method.invoke(desk, arguments(method, written));
            boolean none = got != null && got.equals(ReversalDesk.NONE) && !name.equals("gene");
            return got == null ? "done" : none ? "NONE" : got.toString();
        } catch (InvocationTargetException e) {
            return "throws " + e.getCause().getClass().getSimpleName();
        }
    }

    private static Method methodNamed(String name) {
        for (Method method : ReversalDesk.class.getDeclaredMethods()) {
            if (Modifier.isPublic(method.getModifiers()) && method.getName().equals(name)) {
                return method;
            }
        }
        return null;
    }

    private static Object[] arguments(Method method, String written) {
        String[] parts = written.isEmpty() ? new String[0] : written.split(", ");
        Object[] arguments = new Object[parts.length];
        for (int k = 0; k < parts.length; k++) {
            long number = Long.decode(parts[k].replace("_", "").replace("L", ""));
            if (method.getParameterTypes()[k] == long.class) {
                arguments[k] = number;
            } else {
                arguments[k] = (int) number;
            }
        }
        return arguments;
    }

    private static void findInCallTable(List<String> lines, Method method) {
        String found = "";
        for (String line : lines) {
            if (line.startsWith("| `" + method.getName() + "(")) {
                found = line;
            }
        }
        CHECK.no("the table has " + method.getName(), found.isEmpty());
        // Wrong slots are refused everywhere, so the table tells only what else is.
        for (Class<?> thrown : method.getExceptionTypes()) {
            String name = thrown.getSimpleName();
            if (thrown != IndexOutOfBoundsException.class) {
                CHECK.yes("the table has for " + method.getName() + " " + name, found.contains(name + ": "));
            }
        }
    }

    private static void findTests(List<String> lines) throws IOException {
        try (Stream<Path> files = Files.list(Path.of("src/test/java"))) {
            for (Path file : (Iterable<Path>) files::iterator) {
                String name = file.getFileName().toString().replace(".java", "");
                if (name.endsWith("Test")) {
                    boolean found = lines.stream().anyMatch(line -> line.startsWith("| `" + name + "` |"));
                    CHECK.yes("README.md tells of " + name, found);
                }
            }
        }
    }
}
