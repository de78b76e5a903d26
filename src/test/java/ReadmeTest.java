import java.io.IOException;
import java.lang.reflect.Method;
import java.nio.file.DirectoryStream;
import java.nio.file.Files;
import java.nio.file.Path;
import java.util.HashSet;
import java.util.Set;
import java.util.regex.Matcher;
import java.util.regex.Pattern;

/** That README.md tells the truth: its example is called line by line, and it names each call and each test. */
public final class ReadmeTest {
    private static final Pattern EXAMPLE = Pattern.compile("(?s)```java\\n(.*?)```");
    private static final Pattern CALL = Pattern.compile("cords\\.(\\w+)\\(([\\d, ]*)\\);\\s*// (-?\\d+): \\S.*");
    private static final Pattern TYPED = Pattern.compile("for \\(char sign : \"([^\"]*)\"\\.toCharArray\\(\\)\\) \\{");
    private static final Set<String> NO_ANSWER = Set.of("", "}", "cords.append(sign);", "HerdCords cords = new HerdCords();");

    public static void main(String[] args) throws IOException, ReflectiveOperationException {
        String readme = Files.readString(Path.of("README.md"));
        example(readme);
        namesEachCall(readme);
        namesEachTest(readme);
        Check.end();
    }

    private static void example(String readme) throws ReflectiveOperationException {
        Matcher example = EXAMPLE.matcher(readme);
        if (!example.find()) {
            Check.fail("README.md has no example");
            return;
        }
        HerdCords cords = new HerdCords();
        for (String line : example.group(1).lines().map(String::strip).toList()) {
            Matcher call = CALL.matcher(line);
            Matcher typed = TYPED.matcher(line);
            if (call.matches()) {
                Check.same(line, answer(cords, call.group(1), call.group(2)), Long.parseLong(call.group(3)));
            } else if (typed.matches()) {
                Check.type(cords, typed.group(1));
            } else if (!NO_ANSWER.contains(line)) {
                Check.fail("a line that can't be called: " + line);
            }
        }
    }

    private static long answer(HerdCords cords, String name, String arguments) throws ReflectiveOperationException {
        String[] texts = arguments.isEmpty() ? new String[0] : arguments.split(", ");
        Class<?>[] types = new Class<?>[texts.length];
        Object[] values = new Object[texts.length];
        for (int at = 0; at < texts.length; at++) {
            types[at] = int.class;
            values[at] = Integer.parseInt(texts[at]);
        }
        return ((Number) HerdCords.class.getMethod(name, types).invoke(cords, values)).longValue();
    }

    private static void namesEachCall(String readme) {
        for (Method method : HerdCords.class.getMethods()) {
            if (method.getDeclaringClass() == HerdCords.class && !readme.contains("`" + method.getName() + "`")) {
                Check.fail("README.md does not name " + method.getName());
            }
        }
    }

    private static void namesEachTest(String readme) throws IOException {
        Set<String> tests = new HashSet<>();
        try (DirectoryStream<Path> files = Files.newDirectoryStream(Path.of("src/test/java"), "*Test.java")) {
            for (Path file : files) {
                tests.add(file.getFileName().toString().replace(".java", ""));
            }
        }
        Set<String> named = new HashSet<>();
        Pattern.compile("(?m)^\\| `(\\w+Test)` \\|").matcher(readme).results().forEach(row -> named.add(row.group(1)));
        if (!named.equals(tests)) {
            Check.fail("README.md names the tests " + named + ", there are " + tests);
        }
    }
}
