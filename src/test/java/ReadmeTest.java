import java.io.IOException;
import java.lang.reflect.Method;
import java.lang.reflect.Modifier;
import java.nio.charset.StandardCharsets;
import java.nio.file.DirectoryStream;
import java.nio.file.Files;
import java.nio.file.Path;
import java.util.Map;
import java.util.Set;
import java.util.TreeSet;
import java.util.regex.Matcher;
import java.util.regex.Pattern;

/** What README.md says is so: the answers of its example, every call and every test in a row of a table. */
public final class ReadmeTest {
    private static final Checks CHECKS = new Checks();
    private static final Pattern CALL = Pattern.compile("^x\\.(\\w+)\\(([-\\d, ]*)\\);\\s*// (-?\\d+|[A-Z]+)\\b");
    private static final Pattern WRITTEN = Pattern.compile("^for \\(char c : \"([^\"]*)\"\\.toCharArray\\(\\)\\) x\\.write\\(c\\);$");
    private static final Map<String, Integer> WORDS = Map.of(
        "BAD", DisplayMap.BAD, "NO", DisplayMap.NO, "FULL", DisplayMap.FULL, "NONE", DisplayMap.NONE);

    public static void main(String[] args) throws IOException, ReflectiveOperationException {
        String page = Files.readString(Path.of("README.md"), StandardCharsets.UTF_8);
        example(page);
        calls(page);
        tests(page);
        CHECKS.end();
    }

    private static void example(String page) throws ReflectiveOperationException {
        Matcher block = Pattern.compile("(?s)```java\n(.*?)```").matcher(page);
        CHECKS.due("README.md has an example", block.find() ? 1 : 0, 1);
        String[] lines = block.group(1).split("\n");
        CHECKS.dueAll("the example's first line", lines[0], "DisplayMap x = new DisplayMap();");
        DisplayMap x = new DisplayMap();
        for (int i = 1; i < lines.length; i++) {
            line(x, lines[i]);
        }
    }

    private static void line(DisplayMap x, String line) throws ReflectiveOperationException {
        Matcher written = WRITTEN.matcher(line);
        if (written.find()) {
            for (char c : written.group(1).toCharArray()) {
                x.write(c);
            }
            return;
        }
        Matcher call = CALL.matcher(line);
        if (!call.find()) {
            CHECKS.due("a line that is no call with its answer: " + line, 0, 1);
            return;
        }
        String due = call.group(3);
        int want = WORDS.containsKey(due) ? WORDS.get(due) : Integer.parseInt(due);
        CHECKS.due(line, answer(x, call.group(1), call.group(2).trim()), want);
    }

    private static int answer(DisplayMap x, String name, String told) throws ReflectiveOperationException {
        String[] numbers = told.isEmpty() ? new String[0] : told.split(", *");
        Class<?>[] types = new Class<?>[numbers.length];
        Object[] values = new Object[numbers.length];
        for (int i = 0; i < numbers.length; i++) {
            types[i] = int.class;
            values[i] = Integer.valueOf(numbers[i]);
        }
        return (Integer) DisplayMap.class.getMethod(name, types).invoke(x, values);
    }

    private static void calls(String page) {
        Set<String> due = new TreeSet<>();
        for (Method m : DisplayMap.class.getDeclaredMethods()) {
            if (Modifier.isPublic(m.getModifiers())) {
                due.add(m.getName());
            }
        }
        CHECKS.dueAll("calls in the table", String.join(" ", firstCells(page, "calls")), String.join(" ", due));
    }

    private static void tests(String page) throws IOException {
        Set<String> due = new TreeSet<>();
        try (DirectoryStream<Path> files = Files.newDirectoryStream(Path.of("src/test/java"), "*Test.java")) {
            for (Path file : files) {
                due.add(file.getFileName().toString().replace(".java", ""));
            }
        }
        CHECKS.dueAll("tests in the table", String.join(" ", firstCells(page, "test")), String.join(" ", due));
    }

    /** The names in the first column of the table with this head. */
    private static Set<String> firstCells(String page, String head) {
        Set<String> names = new TreeSet<>();
        boolean within = false;
        for (String line : page.split("\n")) {
            if (line.startsWith("| " + head + " |")) {
                within = true;
            } else if (!line.startsWith("|")) {
                within = false;
            } else if (within) {
                Matcher name = Pattern.compile("`(\\w+)`").matcher(line.substring(0, line.indexOf('|', 1)));
                while (name.find()) {
                    names.add(name.group(1));
                }
            }
        }
        return names;
    }
}
