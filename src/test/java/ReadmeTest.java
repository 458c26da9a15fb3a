import java.io.File;
import java.lang.reflect.Field;
import java.lang.reflect.Method;
import java.lang.reflect.Modifier;
import java.nio.file.Files;
import java.nio.file.Path;
import java.util.ArrayList;
import java.util.List;
import java.util.regex.Matcher;
import java.util.regex.Pattern;

/** README.md: its example does what it says, and its tables have each constant, each call and each test. */
public final class ReadmeTest {
    private static String text;

    public static void main(String[] args) throws Exception {
        text = Files.readString(Path.of("README.md"));
        example();
        constants();
        calls();
        tests();
        Due.end();
    }

    /** Each line of the example that ends with a number gives its variable that number. */
    private static void example() throws Exception {
        Matcher block = Pattern.compile("(?s)```java\n(.*?)```").matcher(text);
        if (!block.find()) {
            Due.holds("README.md has an example", false);
            return;
        }
        Matcher told = Pattern.compile("(?m)^\\w+ (\\w+) = .*; +// (-?\\d+)$").matcher(block.group(1));
        List<String> names = new ArrayList<>();
        List<Long> due = new ArrayList<>();
        while (told.find()) {
            names.add(told.group(1));
            due.add(Long.parseLong(told.group(2)));
        }
        Due.is("answers that the example tells", names.size(), 10);
        long[] got = answers(block.group(1), names);
        for (int i = 0; i < got.length; i++) {
            Due.is("the example's " + names.get(i), got[i], due.get(i));
        }
    }

    private static long[] answers(String code, List<String> names) throws Exception {
        String made = "public final class Example { public static long[] answers() {\n" + code
            + "return new long[] {" + String.join(", ", names) + "}; } }\n";
        Path folder = Files.createTempDirectory("readme");
        try {
            Class<?> example = Compiled.of("Example", made, folder, ReadmeTest.class.getClassLoader());
            return (long[]) example.getMethod("answers").invoke(null);
        } finally {
            Compiled.delete(folder);
        }
    }

    private static void constants() throws Exception {
        for (Field field : NamedStreams.class.getFields()) {
            String row = "| `" + field.getName() + "` | " + field.getInt(null) + " | ";
            Due.holds("README.md has the row " + row, text.contains(row));
        }
    }

    private static void calls() {
        Due.is("constructor in README.md", matches("(?m)^`NamedStreams\\(long \\w+\\)` "), 1);
        int found = 0;
        for (Method method : NamedStreams.class.getDeclaredMethods()) {
            if (Modifier.isPublic(method.getModifiers())) {
                found++;
                Due.is("rows of README.md for " + method, rows(method), 1);
            }
        }
        Due.is("rows of calls", matches("(?m)^\\| `\\w+ \\w+\\(.*\\)` \\| [^|]+ \\| [^|]+ \\|$"), found);
    }

    private static int rows(Method method) {
        StringBuilder row = new StringBuilder("(?m)^\\| `" + method.getReturnType() + " " + method.getName() + "\\(");
        String between = "";
        for (Class<?> type : method.getParameterTypes()) {
            row.append(between).append(type).append(" \\w+");
            between = ", ";
        }
        return matches(row.append("\\)` \\|").toString());
    }

    private static int matches(String form) {
        return (int) Pattern.compile(form).matcher(text).results().count();
    }

    private static void tests() {
        File[] files = new File("src/test/java").listFiles((folder, name) -> name.endsWith("Test.java"));
        for (File file : files) {
            String name = file.getName().replace(".java", "");
            Due.is("rows of README.md for " + name, matches("(?m)^\\| `" + name + "` \\| "), 1);
        }
        Due.is("rows of tests", matches("(?m)^\\| `\\w+Test` \\| "), files.length);
    }
}
