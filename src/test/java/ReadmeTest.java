import java.io.IOException;
import java.lang.reflect.InvocationTargetException;
import java.lang.reflect.Method;
import java.nio.charset.StandardCharsets;
import java.nio.file.Files;
import java.nio.file.Path;
import java.util.HashMap;
import java.util.List;
import java.util.Map;
import java.util.regex.Matcher;
import java.util.regex.Pattern;

/** README.md: its example answers what stands behind each call, its TEST is one, all calls and tests are named. */
public final class ReadmeTest {
    private static final Path FILE = Path.of("README.md");
    private static final Pattern CALL =
            Pattern.compile("(?:int (\\w+) = )?x\\.(\\w+)\\((.*?)\\); +// (-?\\d+|true|false)(?::.*)?");

    private final Check check = new Check();
    private final String text;
    private final WhoCommands x = new WhoCommands();
    private final Map<String, Object> names = new HashMap<>();

    private ReadmeTest() throws IOException {
        text = Files.readString(FILE, StandardCharsets.UTF_8);
        names.put("WhoCommands.NONE", WhoCommands.NONE);
        names.put("true", true);
        names.put("false", false);
    }

    private static Method method(String name) {
        for (Method method : WhoCommands.class.getMethods()) {
            if (method.getName().equals(name)) {
                return method;
            }
        }
        throw new IllegalArgumentException("README.md calls " + name);
    }

    private Object valueOf(String written) {
        return names.containsKey(written) ? names.get(written) : Integer.decode(written);
    }

    private void call(String line) throws IllegalAccessException, InvocationTargetException {
        Matcher call = CALL.matcher(line);
        check.due("that an answer stands behind the call of " + line, call.matches(), true);
        if (!call.matches()) {
            return;
        }
        String[] written = call.group(3).isEmpty() ? new String[0] : call.group(3).split(", ");
        Object[] values = new Object[written.length];
        for (int i = 0; i < values.length; i++) {
            values[i] = valueOf(written[i]);
        }
        Object answer = method(call.group(2)).invoke(x, values);
        check.due(line + " (" + answer + ")", answer.equals(valueOf(call.group(4))), true);
        if (call.group(1) != null) {
            names.put(call.group(1), answer);
        }
    }

    private void example() throws IllegalAccessException, InvocationTargetException {
        Matcher block = Pattern.compile("(?s)```java\n(.*?)```").matcher(text);
        check.due("examples", block.find(), true);
        List<String> lines = block.group(1).lines().toList();
        check.due("that the example makes an object", lines.get(0).equals("WhoCommands x = new WhoCommands();"), true);
        for (String line : lines.subList(1, lines.size())) {
            call(line);
        }
    }

    private void exampleOfTest() {
        Matcher test = Pattern.compile("A TEST such as `(.*?)`").matcher(text);
        check.due("examples of a TEST", test.find(), true);
        check.due("law() of bar " + test.group(1), Check.law(new WhoCommands(), "bar " + test.group(1)), 0);
    }

    private void namesAll() throws IOException {
        for (String line : new Document().face()) {
            Matcher name = Pattern.compile("public (?:int|boolean) (\\w+)\\(.*").matcher(line);
            if (name.matches()) {
                check.due("that README.md tells of " + name.group(1), text.contains("| `" + name.group(1) + "("), true);
            }
        }
        try (var files = Files.newDirectoryStream(Path.of("src/test/java"), "*Test.java")) {
            for (Path file : files) {
                String name = file.getFileName().toString().replace(".java", "");
                check.due("that README.md tells of " + name, text.contains("| `" + name + "` |"), true);
            }
        }
    }

    public static void main(String[] args) throws Exception {
        ReadmeTest test = new ReadmeTest();
        test.example();
        test.exampleOfTest();
        test.namesAll();
        test.check.end("ReadmeTest");
    }
}
