import java.io.IOException;
import java.nio.file.Files;
import java.nio.file.Path;
import java.util.List;
import java.util.regex.Matcher;
import java.util.regex.Pattern;

/** The rules of LANGUAGE.md that can be seen in the text of the program; run where src stands. */
public final class LanguageTests {
    private static final Path PROGRAM = Path.of("src/main/java/CellWindows.java");

    /** Words that the rules leave out, and words that this program does not need. */
    private static final String[] FORBIDDEN = {
        "->", "::", "\\bcatch\\b", "\\btry\\b", "\\bfinally\\b", "\\bsynchronized\\b", "\\bassert\\b", "\\bpackage\\b",
        "\\bvar\\b", "static \\{", "\\bprotected\\b", "\\binstanceof\\b", "Exact\\b", "\\bSystem\\b", "\\bThread\\b",
        "\\bRandom\\b", "\\bdouble\\b", "\\bfloat\\b", "hashCode", "toString", "\\bequals\\b", "\\bObject\\b",
        "\\[\\]\\[\\]\\[\\]", "\" \\+", "\\+ \"",
    };
    private static final List<String> IMPORTS = List.of("import java.util.ArrayList;", "import java.util.Arrays;");
    private static final List<String> THROWN =
        List.of("IllegalStateException", "IllegalArgumentException", "IndexOutOfBoundsException");

    private static void forbiddenWords(List<String> lines) {
        for (int i = 0; i < lines.size(); i++) {
            String code = lines.get(i).replaceAll("//.*|^ *(/\\*\\*|\\*).*", "");
            for (String word : FORBIDDEN) {
                boolean found = Pattern.compile(word).matcher(code).find();
                Check.same("line " + (i + 1) + " holds " + word, String.valueOf(found), "false");
            }
            if (code.startsWith("import")) {
                Check.same(code + " is listed", String.valueOf(IMPORTS.contains(code)), "true");
            }
            Matcher thrown = Pattern.compile("throw new (\\w+)").matcher(code);
            if (thrown.find()) {
                Check.same(thrown.group() + " is listed", String.valueOf(THROWN.contains(thrown.group(1))), "true");
            }
        }
    }

    /** Divisions and remainders stand where the divisor is looked at, or is a constant. */
    private static void divisors(List<String> lines) {
        for (int i = 0; i < lines.size(); i++) {
            String code = lines.get(i).replaceAll("//.*|^ *(/\\*\\*|\\*).*", "");
            if (code.contains("%") || code.contains("/")) {
                boolean safe = code.contains("modulus < 1 ? 0 : value % modulus") || code.contains("% VALUE_MODULUS");
                Check.same("line " + (i + 1) + " looks at its divisor", String.valueOf(safe), "true");
            }
        }
    }

    public static void main(String[] arguments) throws IOException {
        List<String> lines = Files.readAllLines(PROGRAM);
        forbiddenWords(lines);
        divisors(lines);
        Check.finish();
    }
}
