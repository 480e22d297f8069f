import java.io.IOException;
import java.lang.reflect.InvocationTargetException;
import java.lang.reflect.Method;
import java.nio.file.Files;
import java.nio.file.Path;
import java.util.List;
import java.util.regex.Matcher;
import java.util.regex.Pattern;
import java.util.stream.Stream;

/** Makes the calls of README.md's example, each of which tells its answer, and looks for each test's name there. */
public final class ReadmeExample extends Checks {
    private static final Path README = Path.of("README.md");
    private static final Path TESTS = Path.of("tests");
    private static final Pattern NEW = Pattern.compile("OneRankGrid grid = new OneRankGrid\\(\\);.*");
    private static final Pattern CALL = Pattern.compile("grid\\.(\\w+)\\(([^()]*)\\); *// (-?\\d+)(:.*)?");
    private static final int FEWEST = 10;

    public static void main(String[] args) throws IOException, InvocationTargetException, IllegalAccessException {
        String text = Files.readString(README);
        example(text);
        namesOfTests(text);
        end();
    }

    private static void example(String text) throws InvocationTargetException, IllegalAccessException {
        about("README.md's example");
        Matcher block = Pattern.compile("(?s)```java\n(.*?)\n```").matcher(text);
        due("whether there is an example", block.find() ? 1 : 0, 1);
        OneRankGrid grid = new OneRankGrid();
        int calls = 0;
        for (String line : block.group(1).split("\n")) {
            Matcher call = CALL.matcher(line);
            if (call.matches()) {
                due(line, answer(grid, call.group(1), call.group(2)), Long.parseLong(call.group(3)));
                calls++;
            } else {
                due("whether the line is a call with its answer: " + line, NEW.matcher(line).matches() || line.isEmpty() ? 1 : 0, 1);
            }
        }
        due("whether there are " + FEWEST + " calls or more", calls >= FEWEST ? 1 : 0, 1);
    }

    private static long answer(OneRankGrid grid, String name, String arguments)
            throws InvocationTargetException, IllegalAccessException {
        List<String> words = arguments.isEmpty() ? List.of() : List.of(arguments.split(", "));
        for (Method method : OneRankGrid.class.getDeclaredMethods()) {
            if (method.getName().equals(name) && method.getParameterCount() == words.size()) {
                Object[] values = new Object[words.size()];
                for (int i = 0; i < values.length; i++) {
                    long value = Long.decode(words.get(i).replace("L", ""));
                    values[i] = method.getParameterTypes()[i] == long.class ? (Object) value : (Object) Math.toIntExact(value);
                }
                return ((Number) method.invoke(grid, values)).longValue();
            }
        }
        due("whether there is a method " + name + " with " + words.size() + " arguments", 0, 1);
        return 0;
    }

    private static void namesOfTests(String text) throws IOException {
        about("README.md's list of the tests");
        try (Stream<Path> files = Files.list(TESTS)) {
            for (Path file : files.filter(Files::isRegularFile).toList()) {
                String name = file.getFileName().toString();
                due("whether it names " + name, text.contains("`" + name + "`") ? 1 : 0, 1);
            }
        }
    }
}
