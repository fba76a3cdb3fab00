import java.lang.reflect.Method;
import java.lang.reflect.Modifier;
import java.nio.file.Files;
import java.nio.file.Path;
import java.util.List;
import java.util.regex.Matcher;
import java.util.regex.Pattern;
import java.util.stream.Stream;

/**
 * What README.md says of the class is so: its examples are called, and each answer compared with the
 * number that its comment begins with; its tables name each call, each constant and each test.
 */
public final class ReadmeTest {
    private static final String NEW_OBJECT = "RumourSource x = new RumourSource();";
    private static final Pattern CALL = Pattern.compile("x\\.(\\w+)\\((.*?)\\); +// (-?\\d+)(:.*)?");

    public static void main(String[] args) throws Exception {
        Check check = new Check("ReadmeTest");
        Path root = Path.of(System.getProperty("project.root", "."));
        List<String> lines = Files.readAllLines(root.resolve("README.md"));
        examples(check, lines);
        namesAll(check, String.join("\n", lines));
        namesTests(check, String.join("\n", lines), root.resolve("src/test/java"));
        check.end();
    }

    private static void examples(Check check, List<String> lines) throws Exception {
        RumourSource x = null;
        boolean inside = false;
        int called = 0;
        for (String line : lines) {
            if (line.startsWith("```")) {
                inside = line.equals("```java");
                x = null;
            } else if (inside && line.equals(NEW_OBJECT)) {
                x = new RumourSource();
            } else if (inside) {
                Matcher m = CALL.matcher(line);
                boolean isCall = m.matches() && x != null;
                check.holds("a call with its answer: " + line, isCall);
                if (isCall) {
                    long got = answer(x, m.group(1), m.group(2));
                    check.due(line.split(";")[0], got, Long.parseLong(m.group(3)));
                    called++;
                }
            }
        }
        check.holds("the examples are found", called > 20);
    }

    private static long answer(RumourSource x, String name, String given) throws Exception {
        String[] words = given.isEmpty() ? new String[0] : given.split(", ");
        Object[] numbers = new Object[words.length];
        Class<?>[] types = new Class<?>[words.length];
        for (int i = 0; i < words.length; i++) {
            numbers[i] = number(words[i]);
            types[i] = int.class;
        }
        Method method = RumourSource.class.getMethod(name, types);
        return ((Number) method.invoke(x, numbers)).longValue();
    }

    /** A number, a bit such as 1 << 5, a sign such as '>', or NONE. */
    private static int number(String word) {
        if (word.startsWith("1 << ")) {
            return 1 << Integer.parseInt(word.substring(5));
        }
        if (word.startsWith("'")) {
            return word.charAt(1);
        }
        return word.equals("RumourSource.NONE") ? RumourSource.NONE : Integer.parseInt(word);
    }

    private static void namesAll(Check check, String page) throws Exception {
        for (Method m : RumourSource.class.getDeclaredMethods()) {
            if (Modifier.isPublic(m.getModifiers())) {
                check.holds("a table names " + m.getName(), page.contains("`" + m.getName() + "`"));
            }
        }
        for (var f : RumourSource.class.getFields()) {
            String row = "| `" + f.getName() + "` " + f.getInt(null) + " |";
            check.holds("a table has the row " + row, page.contains(row));
        }
    }

    private static void namesTests(Check check, String page, Path folder) throws Exception {
        try (Stream<Path> files = Files.list(folder)) {
            for (Path file : files.toList()) {
                String name = file.getFileName().toString().replace(".java", "");
                if (name.endsWith("Test")) {
                    check.holds("a table names " + name, page.contains("| " + name + " |"));
                }
            }
        }
    }
}
