import java.io.IOException;
import java.lang.reflect.Method;
import java.lang.reflect.Modifier;
import java.nio.file.Files;
import java.nio.file.Path;
import java.util.HashMap;
import java.util.List;
import java.util.Map;
import java.util.regex.Matcher;
import java.util.regex.Pattern;
import java.util.stream.Stream;

/** What README.md tells is so: its example is carried out, and it names every call and every test. */
public final class ReadmeTest {
    private static final Path README = Path.of("README.md");
    private static final Path TESTS = Path.of("src/test/java");
    private static final String FIRST_LINE = "RelayParcels x = new RelayParcels();";
    /** A call, perhaps kept under a name, and the answer that is due. */
    private static final Pattern CALL =
        Pattern.compile("(?:int (\\w+) = )?x\\.(\\w+)\\((.*)\\); +// (-?\\d+)(:.*)?");
    private static final Pattern BLOCK = Pattern.compile("(?s)```java\n(.*?)```");

    private static final Checks CHECKS = new Checks();
    private static final Map<String, Method> METHODS = new HashMap<>();
    private static final Map<String, Integer> NAMED = new HashMap<>();

    public static void main(String[] args) throws Exception {
        for (Method method : RelayParcels.class.getDeclaredMethods()) {
            if (Modifier.isPublic(method.getModifiers())) {
                METHODS.put(method.getName(), method);
            }
        }
        String readme = Files.readString(README);
        example(readme);
        names(readme);
        CHECKS.end();
    }

    private static void example(String readme) throws ReflectiveOperationException {
        Matcher block = BLOCK.matcher(readme);
        boolean found = block.find();
        CHECKS.holds("there is an example", found);
        if (!found) {
            return;
        }
        List<String> lines = block.group(1).lines().toList();
        CHECKS.holds("the example begins with a new object", lines.get(0).startsWith(FIRST_LINE));
        RelayParcels x = new RelayParcels();
        for (String line : lines.subList(1, lines.size())) {
            carryOut(x, line);
        }
        CHECKS.holds("the example has calls", lines.size() > 1);
    }

    private static void carryOut(RelayParcels x, String line) throws ReflectiveOperationException {
        Matcher call = CALL.matcher(line);
        boolean told = call.matches() && METHODS.containsKey(call.group(2));
        CHECKS.holds("a call with its answer: " + line, told);
        if (!told) {
            return;
        }
        Object[] arguments = Stream.of(call.group(3).split(", "))
            .filter(word -> !word.isEmpty()).map(ReadmeTest::number).toArray();
        int answer = (int) METHODS.get(call.group(2)).invoke(x, arguments);
        CHECKS.due(line, answer, Integer.parseInt(call.group(4)));
        if (call.group(1) != null) {
            NAMED.put(call.group(1), answer);
        }
    }

    private static Integer number(String word) {
        if (word.length() == 3 && word.charAt(0) == '\'') {
            return (int) word.charAt(1);
        }
        return NAMED.containsKey(word) ? NAMED.get(word) : Integer.valueOf(word);
    }

    private static void names(String readme) throws IOException {
        for (String method : METHODS.keySet()) {
            CHECKS.holds("it names the call " + method, readme.contains("`" + method + "`"));
        }
        try (Stream<Path> files = Files.list(TESTS)) {
            for (String file : files.map(path -> path.getFileName().toString()).toList()) {
                String name = file.replace(".java", "");
                boolean named = !name.endsWith("Test") || readme.contains("- `" + name + "`: ");
                CHECKS.holds("it names the test " + name, named);
            }
        }
        CHECKS.holds("it says how the tests are run", readme.contains("\n    .ci/run\n"));
    }
}
