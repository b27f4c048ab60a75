import java.io.IOException;
import java.lang.reflect.Method;
import java.lang.reflect.Modifier;
import java.nio.file.Files;
import java.nio.file.Path;
import java.util.Arrays;
import java.util.List;
import java.util.TreeSet;
import java.util.regex.Matcher;
import java.util.regex.Pattern;
import java.util.stream.Collectors;
import java.util.stream.Stream;

/** README.md stands as the class and its tests do: its example, its calls and its tests. */
public final class ReadmeTest {
    private static final Check CHECK = new Check("ReadmeTest");
    private static final Path README = Path.of("README.md");
    private static final Path TESTS = Path.of("src/test/java");

    private static final Pattern MADE = Pattern.compile("DistinctDale counts = new DistinctDale\\((\\d+)\\);.*");
    private static final Pattern CALL = Pattern.compile("counts\\.(\\w+)\\(([\\d, ]*)\\); *// ([\\w-]+).*");

    public static void main(String[] args) throws IOException {
        List<String> lines = Files.readAllLines(README);
        String text = String.join("\n", lines);
        example(lines.subList(lines.indexOf("```java") + 1, lines.size()));
        CHECK.text("the calls that are named", namedBefore("(", text.substring(text.indexOf("| call |"))), face());
        CHECK.text("the tests that are named", namedBefore("`", text.substring(text.indexOf("| test |"))), tests());
        CHECK.end();
    }

    /** Each line is made or called, and must answer the word at the head of its comment. */
    private static void example(List<String> lines) {
        DistinctDale counts = null;
        for (String line : lines) {
            if (line.equals("```")) {
                break;
            }
            Matcher made = MADE.matcher(line);
            Matcher call = CALL.matcher(line);
            if (made.matches()) {
                counts = new DistinctDale(Integer.parseInt(made.group(1)));
            } else if (call.matches()) {
                CHECK.text(line, answer(counts, call.group(1), call.group(2)), call.group(3));
            } else {
                CHECK.text("a line that is no call", line, "");
            }
        }
    }

    private static String answer(DistinctDale on, String name, String numbers) {
        Object[] arguments = Stream.of(numbers.split(",")).map(number -> Integer.valueOf(number.trim())).toArray();
        Class<?>[] types = new Class<?>[arguments.length];
        Arrays.fill(types, int.class);
        try {
            return String.valueOf(DistinctDale.class.getMethod(name, types).invoke(on, arguments));
        } catch (ReflectiveOperationException e) {
            return e.toString();
        }
    }

    /** The names that stand in the first column of a table, each behind a ` and before this sign. */
    private static String namedBefore(String sign, String table) {
        TreeSet<String> names = new TreeSet<>();
        for (String line : table.substring(0, (table + "\n\n").indexOf("\n\n")).split("\n")) {
            Matcher name = Pattern.compile("`(\\w+)" + Pattern.quote(sign)).matcher(line.split("\\|")[1]);
            while (name.find()) {
                names.add(name.group(1));
            }
        }
        return names.toString();
    }

    private static String face() {
        return Stream.of(DistinctDale.class.getDeclaredMethods()).filter(m -> Modifier.isPublic(m.getModifiers()))
            .map(Method::getName).collect(Collectors.toCollection(TreeSet::new)).toString();
    }

    private static String tests() throws IOException {
        try (Stream<Path> files = Files.list(TESTS)) {
            return files.map(file -> file.getFileName().toString()).filter(name -> name.endsWith("Test.java"))
                .map(name -> name.substring(0, name.indexOf('.'))).collect(Collectors.toCollection(TreeSet::new))
                .toString();
        }
    }
}
