import java.io.IOException;
import java.lang.reflect.Method;
import java.lang.reflect.Modifier;
import java.nio.file.Files;
import java.nio.file.Path;
import java.util.HashMap;
import java.util.List;
import java.util.Map;
import java.util.regex.Matcher;
import java.util.regex.Pattern;
import java.util.stream.Stream;

/** README.md tells the truth: its example answers as it says, and it leaves out no call of the class and no test. */
public final class ReadmeTest {
    private static final Path README = Path.of("README.md");
    private static final Path TESTS = Path.of("src/test/java");
    private static final Pattern EXAMPLE = Pattern.compile("(?s)```java\n(.*?)```");
    private static final Pattern CALL =
            Pattern.compile("(?:int (\\w+) = )?desk\\.(\\w+)\\(([^)]*)\\); +// (-?\\d+)\\b.*");
    private static final Pattern TEST_ROW = Pattern.compile("(?m)^\\| `(\\w+Test)` \\|");

    private static final Checks checks = new Checks();

    public static void main(String[] args) throws IOException, ReflectiveOperationException {
        String readme = Files.readString(README);
        runExample(readme);
        lookForCalls(readme);
        lookForTests(readme);
        checks.end();
    }

    private static void runExample(String readme) throws ReflectiveOperationException {
        checks.part("the example in README.md");
        Matcher example = EXAMPLE.matcher(readme);
        checks.holds("is there", example.find());
        List<String> lines = example.group(1).lines().toList();
        checks.same("its first line", lines.get(0), "StageDesk desk = new StageDesk();");
        StageDesk desk = new StageDesk();
        Map<String, Integer> names = new HashMap<>();
        for (String line : lines.subList(1, lines.size())) {
            Matcher call = CALL.matcher(line);
            checks.holds("a call with its answer: " + line, call.matches());
            int answer = answer(desk, call.group(2), call.group(3), names);
            checks.due(line, answer, Integer.parseInt(call.group(4)));
            if (call.group(1) != null) {
                names.put(call.group(1), answer);
            }
        }
    }

    private static int answer(StageDesk desk, String name, String list, Map<String, Integer> names)
            throws ReflectiveOperationException {
        String[] words = list.isEmpty() ? new String[0] : list.split(", ");
        Class<?>[] types = new Class<?>[words.length];
        Object[] arguments = new Object[words.length];
        for (int i = 0; i < words.length; i++) {
            types[i] = int.class;
            arguments[i] = names.containsKey(words[i]) ? names.get(words[i]) : Integer.valueOf(words[i]);
        }
        return (Integer) StageDesk.class.getMethod(name, types).invoke(desk, arguments);
    }

    private static void lookForCalls(String readme) {
        checks.part("README.md tells of");
        for (Method method : StageDesk.class.getDeclaredMethods()) {
            if (Modifier.isPublic(method.getModifiers())) {
                String form = "`" + method.getName() + "\\((\\w+(, \\w+){" + Math.max(method.getParameterCount() - 1, 0)
                        + "})" + (method.getParameterCount() == 0 ? "{0}" : "") + "\\)`";
                checks.holds(method.getName(), Pattern.compile(form).matcher(readme).find());
            }
        }
    }

    private static void lookForTests(String readme) throws IOException {
        checks.part("the tests in README.md");
        List<String> told = TEST_ROW.matcher(readme).results().map(row -> row.group(1)).sorted().toList();
        try (Stream<Path> files = Files.list(TESTS)) {
            List<String> there = files.map(file -> file.getFileName().toString())
                    .filter(name -> name.endsWith(".java")).map(name -> name.replace(".java", "")).sorted().toList();
            checks.same("are those that there are", told.toString(), there.toString());
        }
    }
}
