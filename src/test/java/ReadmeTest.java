import java.io.IOException;
import java.lang.reflect.Method;
import java.lang.reflect.Modifier;
import java.nio.file.DirectoryStream;
import java.nio.file.Files;
import java.nio.file.Path;
import java.util.HashMap;
import java.util.List;
import java.util.Map;
import java.util.regex.Matcher;
import java.util.regex.Pattern;

/** README.md: its calls answer what it says, and it tells all calls and all tests. */
public final class ReadmeTest extends Due {
    private static final Pattern CALL = Pattern.compile("x\\.(\\w+)\\(([^)]*)\\);\\s*// (-?\\d+)(?:: \\S.*)?");
    private static final Pattern ROW = Pattern.compile("\\| `(\\w+)\\(([^)]*)\\)` \\| \\S.* \\|");
    private static final Pattern BYTES = Pattern.compile(": \"(.{20})\"$");

    public static void main(String[] args) throws IOException {
        List<String> lines = Files.readAllLines(Path.of("README.md"));
        promise(0, "README.md says what is true of the class");
        runs(lines);
        table(lines);
        tests(lines);
        end();
    }

    private static void runs(List<String> lines) {
        RedGlass x = null;
        boolean isJava = false;
        int made = 0;
        for (String line : lines) {
            if (line.startsWith("```")) {
                isJava = line.equals("```java");
                x = null;
            } else if (isJava && line.equals("RedGlass x = new RedGlass();")) {
                x = new RedGlass();
            } else if (isJava) {
                call(x, line);
                made++;
            }
        }
        due("whether README.md has runs of calls", made > 50 ? 1 : 0, 1);
    }

    private static void call(RedGlass x, String line) {
        Matcher m = CALL.matcher(line);
        if (x == null || !m.matches()) {
            due("'" + line + "' as a call with its answer", 0, 1);
            return;
        }
        StringBuilder numbers = new StringBuilder();
        for (String number : m.group(2).isEmpty() ? new String[0] : m.group(2).split(", ")) {
            int value = number.equals("RedGlass.NONE") ? RedGlass.NONE : Integer.decode(number);
            numbers.append(numbers.length() == 0 ? "" : ",").append(value);
        }
        String call = m.group(1) + "(" + numbers + ")";
        due("'" + line + "'", answer(x, call), Long.parseLong(m.group(3)));
        if (m.group(1).equals("feed")) {
            bytes(line, m.group(2).split(", "));
        }
    }

    /** The bytes that are fed are the letters that stand behind them. */
    private static void bytes(String line, String[] numbers) {
        Matcher m = BYTES.matcher(line);
        boolean isTold = m.find();
        due("whether '" + line + "' tells its letters", isTold ? 1 : 0, 1);
        for (int i = 0; i < 20 && isTold; i++) {
            int sign = Integer.decode(numbers[i / 4]) >> 24 - i % 4 * 8 & 255;
            due("letter " + i + " of '" + line + "'", sign, m.group(1).charAt(i));
        }
    }

    private static void table(List<String> lines) {
        Map<String, Integer> told = new HashMap<>();
        for (String line : lines) {
            Matcher m = ROW.matcher(line);
            if (m.matches()) {
                told.put(m.group(1), m.group(2).isEmpty() ? 0 : m.group(2).split(", ").length);
            }
        }
        int face = 0;
        for (Method method : RedGlass.class.getDeclaredMethods()) {
            if (Modifier.isPublic(method.getModifiers())) {
                due("how many numbers the table has for " + method.getName(),
                    told.getOrDefault(method.getName(), -1), method.getParameterCount());
                face++;
            }
        }
        due("how many calls the table has", told.size(), face);
    }

    private static void tests(List<String> lines) throws IOException {
        int tests = 0;
        try (DirectoryStream<Path> files = Files.newDirectoryStream(Path.of("src/test/java"), "*Test.java")) {
            for (Path file : files) {
                String name = file.getFileName().toString().replace(".java", "");
                long times = lines.stream().filter(line -> line.matches("- `" + name + "( [^`]*)?`: .*")).count();
                due("how often the tests tell " + name, times, 1);
                tests++;
            }
        }
        long told = lines.stream().filter(line -> line.matches("- `\\w+Test( [^`]*)?`: .*")).count();
        due("how many tests are told", told, tests);
    }
}
