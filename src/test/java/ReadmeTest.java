import java.io.IOException;
import java.lang.reflect.InvocationTargetException;
import java.lang.reflect.Method;
import java.nio.file.Files;
import java.nio.file.Path;
import java.util.ArrayList;
import java.util.List;
import java.util.Set;
import java.util.TreeSet;
import java.util.regex.Matcher;
import java.util.regex.Pattern;
import java.util.stream.Stream;

/** What README.md says is so: each call of its examples answers what stands behind it, and its tests are the tests. */
public final class ReadmeTest {
    private static final String NEW_OBJECT = "ServiceDisk x = new ServiceDisk();";
    private static final Pattern CALL = Pattern.compile("x\\.(\\w+)\\(([^()]*)\\); +// ([^:]+)(: .+)?");
    private static final Pattern TEST_NAME = Pattern.compile("`(\\w+Test)`");

    private static final Check CHECK = new Check();
    private static final Set<String> CALLED = new TreeSet<>();

    public static void main(String[] args) throws IOException {
        Path root = Path.of(System.getProperty("project", "."));
        List<String> lines = Files.readAllLines(root.resolve("README.md"));
        List<List<String>> examples = examplesOf(lines);
        CHECK.isTrue("there are examples", !examples.isEmpty());
        for (List<String> example : examples) {
            makeCallsOf(example);
        }
        CHECK.same("the methods that the examples call", facesMethods().toString(), CALLED.toString());
        CHECK.same("the tests that it names", testsOf(root).toString(), namesIn(lines).toString());
        CHECK.end("ReadmeTest");
    }

    private static List<List<String>> examplesOf(List<String> lines) {
        List<List<String>> examples = new ArrayList<>();
        boolean inside = false;
        for (String line : lines) {
            if (line.equals("```java")) {
                inside = true;
                examples.add(new ArrayList<>());
            } else if (line.startsWith("```")) {
                inside = false;
            } else if (inside) {
                examples.get(examples.size() - 1).add(line);
            }
        }
        return examples;
    }

    private static void makeCallsOf(List<String> example) {
        CHECK.same("an example's first line", NEW_OBJECT, example.get(0));
        ServiceDisk x = new ServiceDisk();
        for (String line : example.subList(1, example.size())) {
            Matcher call = CALL.matcher(line);
            CHECK.isTrue(line + " is a call with its answer", call.matches());
            if (call.matches()) {
                CALLED.add(call.group(1));
                CHECK.same(line, call.group(3).strip(), answerOf(x, call.group(1), call.group(2)));
            }
        }
    }

    private static String answerOf(ServiceDisk x, String name, String arguments) {
        String[] texts = arguments.isEmpty() ? new String[0] : arguments.split(", ");
        try {
            Method method = methodOf(name, texts.length);
            Object answer = method.invoke(x, valuesOf(method, texts));
            return method.getReturnType() == void.class ? "done" : answer.toString();
        } catch (InvocationTargetException e) {
            return "throws " + e.getCause().getClass().getSimpleName();
        } catch (ReflectiveOperationException e) {
            return e.toString();
        }
    }

    private static Method methodOf(String name, int parameters) throws NoSuchMethodException {
        for (Method method : ServiceDisk.class.getDeclaredMethods()) {
            if (method.getName().equals(name) && method.getParameterCount() == parameters) {
                return method;
            }
        }
        throw new NoSuchMethodException(name);
    }

    private static Object[] valuesOf(Method method, String[] texts) {
        Object[] values = new Object[texts.length];
        for (int i = 0; i < texts.length; i++) {
            values[i] = valueOf(method.getParameterTypes()[i], texts[i]);
        }
        return values;
    }

    private static Object valueOf(Class<?> type, String text) {
        if (type == boolean.class) {
            return text.equals("true");
        }
        if (type == long.class) {
            return Long.decode(text.endsWith("L") ? text.substring(0, text.length() - 1) : text);
        }
        return Integer.decode(text);
    }

    private static Set<String> facesMethods() {
        Set<String> names = new TreeSet<>();
        for (Method method : ServiceDisk.class.getMethods()) {
            if (method.getDeclaringClass() == ServiceDisk.class) {
                names.add(method.getName());
            }
        }
        return names;
    }

    private static Set<String> testsOf(Path root) throws IOException {
        Set<String> names = new TreeSet<>();
        try (Stream<Path> files = Files.list(root.resolve("src/test/java"))) {
            files.map(file -> file.getFileName().toString())
                    .filter(name -> name.endsWith("Test.java"))
                    .forEach(name -> names.add(name.substring(0, name.length() - ".java".length())));
        }
        return names;
    }

    private static Set<String> namesIn(List<String> lines) {
        Set<String> names = new TreeSet<>();
        for (String line : lines) {
            Matcher name = TEST_NAME.matcher(line);
            while (name.find()) {
                names.add(name.group(1));
            }
        }
        return names;
    }

    private ReadmeTest() {}
}
