import java.nio.charset.StandardCharsets;
import java.nio.file.Files;
import java.nio.file.Path;
import java.util.regex.Matcher;
import java.util.regex.Pattern;

/** Some of the rules of ../shared/LANGUAGE.md that can be seen in the program's text. */
public final class LanguageTest {
    private static final String[] FORBIDDEN = {
        "\\b(throw|throws|try|catch|finally|synchronized|assert|instanceof|volatile|native)\\b",
        "\\b(import|package|protected|extends|implements|record|enum)\\b", "->", "::", "\\bExact\\b",
        "\\b(Exception|Error|Throwable|Thread|System|Random|Object|Math\\.\\w+Exact)\\b",
        "\\b(float|double|StringBuilder|ArrayList|List|Iterator)\\b", "\\bwhile \\(true\\)",
        "\\bnull\\b", "\"", "@", "/[^/*]"
    };

    public static void main(String[] args) throws Exception {
        Check check = new Check("LanguageTest");
        Path root = Path.of(System.getProperty("project.root", "."));
        byte[] bytes = Files.readAllBytes(root.resolve("src/main/java/RumourSource.java"));
        for (byte b : bytes) {
            check.holds("the sign " + b + " is allowed", b == '\n' || b >= 32 && b < 127);
        }
        String code = withoutComments(new String(bytes, StandardCharsets.US_ASCII));
        for (String pattern : FORBIDDEN) {
            Matcher m = Pattern.compile(pattern).matcher(divisionsTakenOut(code));
            check.holds("nothing like " + pattern, !m.find());
        }
        madeInConstructorsAlone(check, code);
        shortMethods(check, code);
        check.end();
    }

    private static String withoutComments(String source) {
        return Pattern.compile("/\\*.*?\\*/|//[^\\n]*", Pattern.DOTALL).matcher(source).replaceAll("");
    }

    /** The one division has its divisor looked at: another one is to be looked at by a reader. */
    private static String divisionsTakenOut(String code) {
        return code.replace("sum > 0 ? (int) (1000 * likelihoods[node] / sum) : 0", "");
    }

    /** Objects and rows are made by fields, which constructors set, and in the constructor. */
    private static void madeInConstructorsAlone(Check check, String code) {
        for (String line : code.split("\n")) {
            if (line.contains("new ")) {
                boolean field = line.strip().startsWith("private final ");
                boolean history = line.strip().equals("past[i] = new Scene();");
                check.holds("made by a constructor: " + line.strip(), field || history);
            }
        }
    }

    private static void shortMethods(Check check, String code) {
        Matcher m = Pattern.compile("(?m)^( {4}| {8})(public|private) [^\\n;=]*\\([^\\n]*\\) \\{\\n(.*?)^\\1\\}",
            Pattern.DOTALL).matcher(code);
        int found = 0;
        while (m.find()) {
            found++;
            check.holds("at most sixty lines: " + m.group().split("\n")[0].strip(),
                m.group().split("\n").length <= 60);
        }
        check.holds("the methods are found", found > 60);
    }
}
