import java.io.IOException;
import java.lang.reflect.Field;
import java.lang.reflect.Method;
import java.lang.reflect.Modifier;
import java.nio.file.Files;
import java.nio.file.Path;
import java.util.List;
import java.util.regex.Matcher;
import java.util.regex.Pattern;

/** The rules of LANGUAGE.md that can be seen in the text and the shape of the program; run where src stands. */
public final class LanguageTests {
    private static final Path PROGRAM = Path.of("src/main/java/CellWindows.java");

    /** Words that the rules leave out, and words that this program does not need. */
    private static final String[] FORBIDDEN = {
        "->", "::", "\\bcatch\\b", "\\btry\\b", "\\bfinally\\b", "\\bsynchronized\\b", "\\bassert\\b", "\\bpackage\\b",
        "\\bvar\\b", "static \\{", "\\bprotected\\b", "\\binstanceof\\b", "Exact\\b", "\\bSystem\\b", "\\bThread\\b",
        "\\bRandom\\b", "\\bdouble\\b", "\\bfloat\\b", "hashCode", "toString", "\\bequals\\b", "\\bObject\\b",
        "\\[\\]\\[\\]\\[\\]", "\" \\+", "\\+ \"",
    };
    private static final List<String> IMPORTS = List.of("import java.util.ArrayList;", "import java.util.Arrays;");
    private static final List<String> THROWN =
        List.of("IllegalStateException", "IllegalArgumentException", "IndexOutOfBoundsException");
    private static final int MOST_CLASSES = 12;
    private static final int MOST_FIELDS = 20;
    private static final int MOST_PARAMETERS = 7;
    private static final int MOST_LINES_OF_A_METHOD = 60;

    private static void forbiddenWords(List<String> lines) {
        for (int i = 0; i < lines.size(); i++) {
            String code = lines.get(i).replaceAll("//.*|^ *(/\\*\\*|\\*).*", "");
            for (String word : FORBIDDEN) {
                boolean found = Pattern.compile(word).matcher(code).find();
                Check.same("line " + (i + 1) + " holds " + word, String.valueOf(found), "false");
            }
            if (code.startsWith("import")) {
                Check.same(code + " is listed", String.valueOf(IMPORTS.contains(code)), "true");
            }
            Matcher thrown = Pattern.compile("throw new (\\w+)").matcher(code);
            if (thrown.find()) {
                Check.same(thrown.group() + " is listed", String.valueOf(THROWN.contains(thrown.group(1))), "true");
            }
        }
    }

    /** Divisions and remainders stand where the divisor is looked at, or is a constant. */
    private static void divisors(List<String> lines) {
        for (int i = 0; i < lines.size(); i++) {
            String code = lines.get(i).replaceAll("//.*|^ *(/\\*\\*|\\*).*", "");
            if (code.contains("%") || code.contains("/")) {
                boolean safe = code.contains("modulus < 1 ? 0 : value % modulus") || code.contains("% VALUE_MODULUS");
                Check.same("line " + (i + 1) + " looks at its divisor", String.valueOf(safe), "true");
            }
        }
    }

    /** Rules 3 and 11: signs up to 127, and short methods. */
    private static void signsAndLengths(List<String> lines) {
        for (int i = 0; i < lines.size(); i++) {
            holds("line " + (i + 1) + " holds signs up to 127", lines.get(i).chars().allMatch(sign -> sign <= 127));
        }
        shortMethods(lines, "    ");
        shortMethods(lines, "        ");
    }

    /** A method's last line stands as deep as its first one, and nothing between them does. */
    private static void shortMethods(List<String> lines, String depth) {
        int begin = 0;
        for (int i = 0; i < lines.size(); i++) {
            if (lines.get(i).matches(depth + "\\w.*")) {
                begin = i;
            }
            if (lines.get(i).equals(depth + "}") && lines.get(begin).contains("(")) {
                holds("line " + (i + 1) + " ends a short method", i - begin < MOST_LINES_OF_A_METHOD);
            }
        }
    }

    private static void classes() {
        Class<?>[] inside = CellWindows.class.getDeclaredClasses();
        holds("at most " + MOST_CLASSES + " classes", inside.length + 1 <= MOST_CLASSES);
        membersOf(CellWindows.class);
        for (Class<?> one : inside) {
            int modifiers = one.getModifiers();
            holds(one + " is static", Modifier.isStatic(modifiers));
            holds(one + " does not show", !Modifier.isPublic(modifiers) && !Modifier.isProtected(modifiers));
            membersOf(one);
        }
    }

    private static void membersOf(Class<?> one) {
        int fields = 0;
        for (Field field : one.getDeclaredFields()) {
            boolean constant = Modifier.isStatic(field.getModifiers());
            holds(field + " is private", field.isEnumConstant() || Modifier.isPrivate(field.getModifiers()));
            holds(field + " is final", !constant || Modifier.isFinal(field.getModifiers()));
            fields += constant ? 0 : 1;
        }
        holds(one + " has at most " + MOST_FIELDS + " fields", fields <= MOST_FIELDS);
        for (Method method : one.getDeclaredMethods()) {
            holds(method + " has few parameters", method.getParameterCount() <= MOST_PARAMETERS);
        }
    }

    private static void holds(String what, boolean held) {
        Check.same(what, String.valueOf(held), "true");
    }

    public static void main(String[] arguments) throws IOException {
        List<String> lines = Files.readAllLines(PROGRAM);
        forbiddenWords(lines);
        divisors(lines);
        signsAndLengths(lines);
        classes();
        Check.finish();
    }
}
