import java.io.IOException;
import java.lang.reflect.Method;
import java.nio.file.Files;
import java.nio.file.Path;
import java.util.List;
import java.util.regex.Matcher;
import java.util.regex.Pattern;

/** What README.md says of the use: its example, the calls and the constants in its tables. */
public final class ReadmeTest {
    private static final Check CHECK = new Check();
    private static final Pattern EXAMPLE = Pattern.compile("lines\\.(\\w+\\(.*\\)); *// ([-.\\d]+).*");
    private static final Pattern CALL = Pattern.compile("\\| `(\\w+)\\((.*?)\\)`.*");
    private static final Pattern CONSTANT = Pattern.compile("\\| `([A-Z_]+)` \\| (-\\d+) \\|.*");

    public static void main(String[] args) throws IOException, ReflectiveOperationException {
        List<String> lines = Files.readAllLines(Path.of("README.md"));
        example(lines);
        calls(lines);
        constants(lines);
        CHECK.end("ReadmeTest");
    }

    private static void example(List<String> lines) {
        Run run = new Run(CHECK);
        for (String line : lines) {
            if (line.startsWith("lines.")) {
                Matcher told = EXAMPLE.matcher(line);
                CHECK.holds("a call and its answer: " + line, told.matches());
                run.due(told.group(1), Double.parseDouble(told.group(2).replaceFirst("\\.$", "")));
            }
        }
        CHECK.holds("there is an example", !run.calls().isEmpty());
    }

    private static void calls(List<String> lines) {
        int told = 0;
        for (String line : lines) {
            told += CALL.matcher(line).matches() ? 1 : 0;
        }
        int methods = 0;
        for (Method method : SpriteLines.class.getMethods()) {
            if (method.getDeclaringClass() == SpriteLines.class) {
                methods++;
                CHECK.due("rows for " + method.getName(), rows(lines, method), 1);
            }
        }
        CHECK.due("rows for calls", told, methods);
    }

    /** How many rows of the tables tell of a call with its name and so many arguments. */
    private static int rows(List<String> lines, Method method) {
        int rows = 0;
        for (String line : lines) {
            Matcher told = CALL.matcher(line);
            if (told.matches() && told.group(1).equals(method.getName())) {
                String arguments = told.group(2);
                int number = arguments.isEmpty() ? 0 : arguments.split(", ").length;
                rows += number == method.getParameterCount() ? 1 : 0;
            }
        }
        return rows;
    }

    private static void constants(List<String> lines) throws ReflectiveOperationException {
        int told = 0;
        for (String line : lines) {
            Matcher constant = CONSTANT.matcher(line);
            if (constant.matches()) {
                told++;
                CHECK.due(constant.group(1), Integer.parseInt(constant.group(2)),
                        SpriteLines.class.getField(constant.group(1)).getInt(null));
            }
        }
        CHECK.due("rows for constants", told, 5);
    }
}
