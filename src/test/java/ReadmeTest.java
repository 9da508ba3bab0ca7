import java.io.IOException;
import java.lang.reflect.Method;
import java.lang.reflect.Modifier;
import java.nio.file.DirectoryStream;
import java.nio.file.Files;
import java.nio.file.Path;
import java.util.ArrayList;
import java.util.HashMap;
import java.util.List;
import java.util.Map;
import java.util.regex.Matcher;
import java.util.regex.Pattern;

/** README.md is true: its example gives the answers it tells, and it names every call and test. */
public final class ReadmeTest {
    private static final Path README = Path.of("README.md");
    private static final Path TESTS = Path.of("src", "test", "java");

    // a call with its answer behind it: "int a = x.formula(1, 0, 0);  // 0: what it means"
    private static final Pattern STATEMENT = Pattern.compile("(?:int (\\w+) = )?(x\\.\\w+\\(.*\\)); +// (-?\\d+): .+");
    private static final Pattern CALL = Pattern.compile("x\\.(\\w+)\\((.*)\\)");

    private final Due due = new Due();
    private final BoxProofs x = new BoxProofs();
    private final Map<String, Integer> names = new HashMap<>();

    public static void main(String[] args) throws IOException, ReflectiveOperationException {
        ReadmeTest test = new ReadmeTest();
        String text = Files.readString(README);
        List<String> example = example(text);
        test.answers(example);
        test.namesCalls(text, String.join("\n", example));
        test.namesTests(text);
        test.due.end();
    }

    private static List<String> example(String text) {
        int start = text.indexOf("```java\n");
        int end = text.indexOf("\n```", start + 1);
        List<String> lines = new ArrayList<>();
        if (start >= 0 && end > start) {
            text.substring(start + 8, end).lines().filter(line -> !line.isBlank()).forEach(lines::add);
        }
        return lines;
    }

    private void answers(List<String> example) throws ReflectiveOperationException {
        due.part("the example of README.md");
        due.is("it makes an object first", example.indexOf("BoxProofs x = new BoxProofs();"), 0);
        for (String line : example.subList(Math.min(1, example.size()), example.size())) {
            Matcher statement = STATEMENT.matcher(line);
            due.is(line + " is a call with its answer", statement.matches() ? 1 : 0, 1);
            if (statement.matches()) {
                int got = valueOf(statement.group(2));
                due.is(line, got, Integer.parseInt(statement.group(3)));
                if (statement.group(1) != null) {
                    names.put(statement.group(1), got);
                }
            }
        }
    }

    /** The value of a number, of a name that the example gave to an answer, or of a call. */
    private int valueOf(String word) throws ReflectiveOperationException {
        Matcher call = CALL.matcher(word);
        if (!call.matches()) {
            return names.containsKey(word) ? names.get(word) : Integer.parseInt(word);
        }
        String[] words = call.group(2).isEmpty() ? new String[0] : call.group(2).split(", ");
        Object[] numbers = new Object[words.length];
        Class<?>[] types = new Class<?>[words.length];
        for (int i = 0; i < words.length; i++) {
            numbers[i] = valueOf(words[i]);
            types[i] = int.class;
        }
        return (int) BoxProofs.class.getMethod(call.group(1), types).invoke(x, numbers);
    }

    private void namesCalls(String text, String example) {
        due.part("README.md names every call and constant");
        String said = text.replace(example, "");
        for (Method method : BoxProofs.class.getDeclaredMethods()) {
            if (Modifier.isPublic(method.getModifiers())) {
                String call = method.getName() + "(";
                due.is(call + " in the example", example.contains("x." + call) ? 1 : 0, 1);
                due.is(call + " in the text", said.contains("`" + call) ? 1 : 0, 1);
            }
        }
        for (String constant : new String[] {"NONE", "UNKNOWN", "OUTSIDE", "FULL"}) {
            due.is(constant, said.contains("`" + constant + "`") ? 1 : 0, 1);
        }
    }

    private void namesTests(String text) throws IOException {
        due.part("README.md names every file of the tests, and no other");
        int files = 0;
        try (DirectoryStream<Path> stream = Files.newDirectoryStream(TESTS, "*.java")) {
            for (Path file : stream) {
                files++;
                String name = file.getFileName().toString().replace(".java", "");
                due.is(name, text.contains("`" + name + "`") ? 1 : 0, 1);
            }
        }
        due.is("there are some", files > 0 ? 1 : 0, 1);
        Matcher named = Pattern.compile("`(\\w+Test)`").matcher(text);
        while (named.find()) {
            due.is(named.group(1), Files.exists(TESTS.resolve(named.group(1) + ".java")) ? 1 : 0, 1);
        }
    }
}
