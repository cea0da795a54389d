import java.io.IOException;
import java.lang.reflect.Method;
import java.nio.file.Files;
import java.nio.file.Path;
import java.util.regex.Matcher;
import java.util.regex.Pattern;

/** The rows of Java in README.md, one after the other on one object: each answers what stands behind its "//". */
final class ReadmeTest extends Checks {
    private static final Pattern CALL = Pattern.compile("logs\\.(\\w+)\\(([-\\d, ]*)\\);\\s*// (-?\\d+)\\b.*");
    private static final Pattern TEXT = Pattern.compile("for \\(char sign : \"(.*)\"\\.toCharArray\\(\\)\\) \\{");
    private static final Pattern LINE = Pattern.compile("// line: (.*)");

    public static void main(String[] args) throws IOException, ReflectiveOperationException {
        CaravanLogs logs = new CaravanLogs();
        boolean isJava = false;
        int calls = 0;
        for (String row : Files.readAllLines(Path.of("README.md"))) {
            if (row.startsWith("```")) {
                isJava = row.equals("```java");
            } else if (isJava) {
                calls += tryRow(logs, row);
            }
        }
        due("README.md has calls", calls >= 20 ? 1 : 0, 1);
        end();
    }

    /** Answers how many calls with a due answer the row has. */
    private static int tryRow(CaravanLogs logs, String row) throws ReflectiveOperationException {
        Matcher call = CALL.matcher(row);
        Matcher text = TEXT.matcher(row);
        Matcher line = LINE.matcher(row);
        if (call.find()) {
            due(row, answer(logs, call.group(1), call.group(2)), Integer.parseInt(call.group(3)));
            return 1;
        }
        if (text.matches()) {
            type(logs, text.group(1));
        } else if (line.matches()) {
            due(row, line(logs), line.group(1));
        } else {
            due("a call without its answer: " + row, row.startsWith("logs.") ? 1 : 0, 0);
        }
        return 0;
    }

    private static int answer(CaravanLogs logs, String name, String numbers) throws ReflectiveOperationException {
        String[] each = numbers.isBlank() ? new String[0] : numbers.split(",");
        for (Method method : CaravanLogs.class.getMethods()) {
            if (method.getName().equals(name) && method.getParameterCount() == each.length) {
                Object[] arguments = new Object[each.length];
                for (int i = 0; i < each.length; i++) {
                    arguments[i] = Integer.parseInt(each[i].trim());
                }
                return (Integer) method.invoke(logs, arguments);
            }
        }
        throw new NoSuchMethodException(name);
    }
}
