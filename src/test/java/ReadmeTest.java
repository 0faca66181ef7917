import java.io.IOException;
import java.lang.reflect.Field;
import java.lang.reflect.Method;
import java.nio.file.Files;
import java.nio.file.Path;
import java.util.Arrays;
import java.util.Set;
import java.util.TreeSet;
import java.util.regex.Matcher;
import java.util.regex.Pattern;

/** README.md: each call in its examples answers what stands behind it; no call, constant or test is left out. */
public final class ReadmeTest {
    private static final Path README = Path.of("README.md");
    private static final Path TESTS = Path.of("src/test/java");
    private static final String NEW_OBJECT = "TowersAndWaves game = new TowersAndWaves();";
    private static final Pattern EXAMPLE = Pattern.compile("(?s)```java\n(.*?)```");
    private static final Pattern CALL =
        Pattern.compile("game\\.(\\w+)\\(((?:-?[\\w.]+(?:, )?)*)\\); +// (-?\\d+|[A-Z]+)(?:: .+|)");

    public static void main(String[] args) throws ReflectiveOperationException, IOException {
        String text = Files.readString(README);
        Set<String> called = examplesAnswerAsTold(text);
        for (Method method : TowersAndWaves.class.getMethods()) {
            if (method.getDeclaringClass() == TowersAndWaves.class) {
                Check.that("an example calls " + method.getName(), called.contains(method.getName()));
            }
        }
        for (Field field : TowersAndWaves.class.getFields()) {
            String told = "| `" + field.getName() + "` | " + field.getInt(null) + " |";
            Check.that("it says what " + field.getName() + " is", text.contains(told));
        }
        try (var files = Files.list(TESTS)) {
            for (Path file : files.toList()) {
                String name = file.getFileName().toString().replace(".java", "");
                Check.that("it names " + name, text.contains("`" + name + "`"));
            }
        }
        Check.that("it says how the tests are run", text.contains("\n    .ci/run\n"));
        Check.end();
    }

    /** The names of the calls that the examples show; these are one run of calls from the first example to the last. */
    private static Set<String> examplesAnswerAsTold(String text) throws ReflectiveOperationException {
        Set<String> called = new TreeSet<>();
        TowersAndWaves game = null;
        Matcher example = EXAMPLE.matcher(text);
        while (example.find()) {
            for (String line : example.group(1).split("\n")) {
                if (line.equals(NEW_OBJECT)) {
                    game = new TowersAndWaves();
                    continue;
                }
                Matcher call = CALL.matcher(line);
                Check.that("a call and its answer: " + line, line.isBlank() || (game != null && call.matches()));
                if (game != null && call.matches()) {
                    called.add(call.group(1));
                    Check.due(line, answer(game, call.group(1), call.group(2)), number(call.group(3)));
                }
            }
        }
        return called;
    }

    private static int answer(TowersAndWaves game, String name, String arguments) throws ReflectiveOperationException {
        String[] words = arguments.isEmpty() ? new String[0] : arguments.split(", ");
        Object[] values = new Object[words.length];
        for (int i = 0; i < words.length; i++) {
            values[i] = number(words[i].replace("TowersAndWaves.", ""));
        }
        Class<?>[] types = new Class<?>[words.length];
        Arrays.fill(types, int.class);
        return (int) TowersAndWaves.class.getMethod(name, types).invoke(game, values);
    }

    private static int number(String word) throws ReflectiveOperationException {
        return word.matches("-?\\d+") ? Integer.parseInt(word) : TowersAndWaves.class.getField(word).getInt(null);
    }
}
