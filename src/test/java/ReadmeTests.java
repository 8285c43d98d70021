import java.io.IOException;
import java.nio.file.Files;
import java.nio.file.Path;
import java.util.ArrayList;
import java.util.List;
import java.util.regex.Matcher;
import java.util.regex.Pattern;

/** What README.md shows as an answer is what the class answers; run where README.md stands. */
public final class ReadmeTests {
    private static final Path README = Path.of("README.md");
    private static final String MADE = "CellWindows x = new CellWindows();";
    /** A call, and behind it its answer, or the exception that it throws. */
    private static final Pattern CALL = Pattern.compile("x\\.(\\w+)\\((.*)\\); +// (throws \\w+|\\S+)(  .+)?");

    private static List<String> shownRun(List<String> readme) {
        int begin = readme.indexOf("```java");
        if (begin < 0) {
            return new ArrayList<>();
        }
        List<String> rest = readme.subList(begin + 1, readme.size());
        return rest.subList(0, Math.max(0, rest.indexOf("```")));
    }

    private static void answersAsShown(CellWindows x, String line) {
        Matcher call = CALL.matcher(line);
        boolean understood = call.matches();
        Check.same("README shows a call and its answer: " + line, String.valueOf(understood), "true");
        if (understood) {
            Check.due(x, call.group(1), call.group(3).replace(' ', '.'), arguments(call.group(2)));
        }
    }

    private static Object[] arguments(String text) {
        String[] words = text.isEmpty() ? new String[0] : text.split(", ");
        Object[] arguments = new Object[words.length];
        for (int i = 0; i < words.length; i++) {
            boolean flag = words[i].equals("true") || words[i].equals("false");
            arguments[i] = flag ? (Object) Boolean.valueOf(words[i]) : (Object) Integer.valueOf(words[i]);
        }
        return arguments;
    }

    private static void tells(String readme, String words) {
        Check.same("README tells: " + words, String.valueOf(readme.contains(words)), "true");
    }

    public static void main(String[] arguments) throws IOException {
        List<String> readme = Files.readAllLines(README);
        List<String> run = shownRun(readme);
        Check.same("README shows a run of calls", String.valueOf(run.size() > 1), "true");
        Check.same("the first line of the run", run.isEmpty() ? "" : run.get(0), MADE);
        CellWindows x = new CellWindows();
        for (int i = 1; i < run.size(); i++) {
            answersAsShown(x, run.get(i));
        }
        String text = String.join(" ", readme);
        tells(text, "at most 512 calls");
        tells(text, "A call that throws has changed nothing");
        tells(text, ".ci/run");
        for (String exception : new String[] {"IndexOutOfBounds", "IllegalArgument", "IllegalState"}) {
            tells(text, "`" + exception + "Exception`");
        }
        Check.finish();
    }
}
