import java.io.IOException;
import java.lang.reflect.Method;
import java.nio.file.Files;
import java.nio.file.Path;
import java.util.HashMap;
import java.util.Map;
import java.util.regex.Matcher;
import java.util.regex.Pattern;

/** README.md: each call that it shows is made, and must answer what stands behind it. */
public final class JobLoopReadmeTest {
    private static final Path README = Path.of("README.md");
    private static final Path TESTS = Path.of("src/test/java");
    private static final String NEW_OBJECT = "JobLoop x = new JobLoop();";
    private static final Pattern BLOCK = Pattern.compile("(?s)```java\n(.*?)```");
    private static final Pattern SHOWN =
        Pattern.compile("(?:int (\\w+) = )?x\\.(\\w+)\\(([^)]*)\\); +// (-?\\d+|true|false)(?:: .*)?");

    private static final Due due = new Due("JobLoopReadmeTest");

    public static void main(String[] args) throws IOException, ReflectiveOperationException {
        String readme = Files.readString(README);
        int shown = 0;
        for (Matcher block = BLOCK.matcher(readme); block.find(); shown++) {
            calls(block.group(1));
        }
        due.is("README.md shows calls", shown > 0, true);
        tests(readme);
        due.close();
    }

    private static void calls(String block) throws ReflectiveOperationException {
        JobLoop x = new JobLoop();
        Map<String, Integer> names = new HashMap<>();
        for (String line : block.split("\n")) {
            if (line.equals(NEW_OBJECT)) {
                x = new JobLoop();
                names.clear();
                continue;
            }
            Matcher shown = SHOWN.matcher(line);
            due.is("'" + line + "' is a call with its answer", line.isBlank() || shown.matches(), true);
            if (!line.isBlank() && shown.matches()) {
                long got = answer(x, shown.group(2), shown.group(3), names);
                due.is(line, got, numberOf(shown.group(4)));
                names.put(String.valueOf(shown.group(1)), (int) got);
            }
        }
    }

    private static long answer(JobLoop x, String name, String arguments, Map<String, Integer> names)
            throws ReflectiveOperationException {
        String[] texts = arguments.isEmpty() ? new String[0] : arguments.split(", ");
        Object[] numbers = new Object[texts.length];
        Class<?>[] types = new Class<?>[texts.length];
        for (int i = 0; i < texts.length; i++) {
            numbers[i] = names.containsKey(texts[i]) ? names.get(texts[i]) : Integer.valueOf(texts[i]);
            types[i] = int.class;
        }
        Method method = JobLoop.class.getMethod(name, types);
        return numberOf(String.valueOf(method.invoke(x, numbers)));
    }

    private static long numberOf(String answer) {
        return answer.equals("true") ? 1 : answer.equals("false") ? 0 : Long.parseLong(answer);
    }

    /** Each test has a line in the table, and each line names a test that is there. */
    private static void tests(String readme) throws IOException {
        Matcher line = Pattern.compile("(?m)^\\| `(\\w+)` \\|").matcher(readme);
        int named = 0;
        while (line.find()) {
            named++;
            due.is(line.group(1) + " is there", Files.exists(TESTS.resolve(line.group(1) + ".java")), true);
        }
        try (var files = Files.list(TESTS)) {
            due.is("tests named", named, files.filter(f -> f.toString().endsWith("Test.java")).count());
        }
    }
}
