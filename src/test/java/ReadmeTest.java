import java.io.IOException;
import java.lang.reflect.Method;
import java.lang.reflect.Modifier;
import java.nio.file.Files;
import java.nio.file.Path;
import java.util.List;
import java.util.regex.Matcher;
import java.util.regex.Pattern;
import java.util.stream.Collectors;
import java.util.stream.Stream;

/** README.md says how to use the class and how to run its tests: what it says must be so. */
public final class ReadmeTest {
    private static final Checks checks = new Checks();

    public static void main(String[] args) throws Exception {
        String page = Files.readString(Path.of("README.md"));
        example(page);
        everyCall(page);
        everyTest(page);
        checks.end();
    }

    private static void example(String page) throws ReflectiveOperationException {
        checks.part("the example");
        Matcher text = Pattern.compile("String text = \"([^\"]*)\";").matcher(page);
        checks.due("has a text", text.find(), true);
        MasksAtDawn town = Checks.told(text.group(1));
        Matcher line = Pattern.compile("(?m)^town\\.(\\w+)\\(([^)]*)\\); +// (-?\\d+):").matcher(page);
        int lines = 0;
        while (line.find()) {
            lines++;
            checks.due(line.group(), call(town, line.group(1), line.group(2)), Integer.parseInt(line.group(3)));
        }
        int calls = page.split("(?m)^town\\.", -1).length - 1;
        checks.due("lines with an answer", lines, calls);
        checks.due("there are some", lines > 10, true);
    }

    private static int call(MasksAtDawn town, String name, String numbers) throws ReflectiveOperationException {
        for (Method method : calls()) {
            if (method.getName().equals(name)) {
                Class<?>[] types = method.getParameterTypes();
                String[] told = numbers.isEmpty() ? new String[0] : numbers.split(", ");
                Object[] values = new Object[types.length];
                for (int v = 0; v < values.length; v++) {
                    values[v] = types[v] == boolean.class ? (Object) told[v].equals("true")
                        : types[v] == long.class ? (Object) Long.valueOf(told[v]) : (Object) Integer.valueOf(told[v]);
                }
                return (Integer) method.invoke(town, values);
            }
        }
        throw new IllegalStateException("no such call: " + name);
    }

    private static List<Method> calls() {
        return Stream.of(MasksAtDawn.class.getDeclaredMethods())
            .filter(method -> Modifier.isPublic(method.getModifiers())).collect(Collectors.toList());
    }

    /** Each call is told once, with as many numbers as it takes and the promise's number behind it. */
    private static void everyCall(String page) {
        checks.part("the calls");
        Matcher told = Pattern.compile("`(\\w+)\\(([^)]*)\\)` \\((\\d+)\\)").matcher(page);
        int[] promises = new int[31];
        while (told.find()) {
            promises[Integer.parseInt(told.group(3))]++;
            int numbers = told.group(2).isEmpty() ? 0 : told.group(2).split(",").length;
            String name = told.group(1);
            checks.due(told.group(), calls().stream().anyMatch(
                method -> method.getName().equals(name) && method.getParameterCount() == numbers), true);
        }
        for (int promise = 2; promise <= 30; promise++) {
            checks.due("promise " + promise, promises[promise], 1);
        }
        for (Method method : calls()) {
            checks.due(method.getName(), page.contains("`" + method.getName() + "("), true);
        }
        String[] constants = {"BAD` (" + MasksAtDawn.BAD, "NO` (" + MasksAtDawn.NO, "FULL` (" + MasksAtDawn.FULL};
        for (String constant : constants) {
            checks.due(constant, page.contains(constant), true);
        }
    }

    private static void everyTest(String page) throws IOException {
        checks.part("the tests");
        checks.due(".ci/run", page.contains("`.ci/run`"), true);
        try (Stream<Path> files = Files.list(Path.of("src/test/java"))) {
            for (Path file : files.sorted().collect(Collectors.toList())) {
                String name = file.getFileName().toString().replace(".java", "");
                checks.due(name, page.contains("`" + name + "`"), true);
            }
        }
        try (Stream<String> lines = Files.lines(Path.of("src/main/java/MasksAtDawn.java"))) {
            lines.filter(line -> line.matches(" +private static final class \\w+ \\{")).forEach(line -> {
                String name = line.replaceAll(".* (\\w+) \\{", "$1");
                checks.due("class " + name, page.contains("| `" + name + "` |"), true);
            });
        }
    }
}
