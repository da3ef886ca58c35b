import java.io.IOException;
import java.lang.reflect.Method;
import java.nio.file.Files;
import java.nio.file.Path;
import java.util.List;
import java.util.Set;
import java.util.TreeSet;
import java.util.regex.Matcher;
import java.util.regex.Pattern;

/** The runs that README.md shows, with the answers behind the calls, and its table of error codes. */
public final class ReadmeTest {
    private static final String NEW_OBJECT = "SlotBundler bundler = new SlotBundler();";
    private static final Pattern CALL =
            Pattern.compile("bundler\\.(\\w+\\([-\\d, ]*\\)); +// (-?\\d+|[A-Z_]+|Long\\.MIN_VALUE)(: \\S.*)?");
    private static final Pattern ERROR_CODE = Pattern.compile("\\| `([A-Z_]+)` \\| (-\\d+) \\| \\S.* \\|");

    private final Set<String> shownCalls = new TreeSet<>();
    private final Set<String> shownCodes = new TreeSet<>();
    private SlotBundler bundler;
    private int runs;

    public static void main(String[] args) throws IOException {
        ReadmeTest test = new ReadmeTest();
        test.readAll(Files.readAllLines(Path.of("README.md")));
        test.showsEverything();
        Calls.end("ReadmeTest");
    }

    private void readAll(List<String> lines) {
        boolean inRun = false;
        for (int k = 0; k < lines.size(); k++) {
            String line = lines.get(k);
            String title = "README.md, line " + (k + 1);
            if (line.equals("```java")) {
                inRun = true;
                bundler = null;
                runs++;
            } else if (line.equals("```")) {
                inRun = false;
            } else if (inRun) {
                readLineOfRun(title, line);
            } else {
                readErrorCode(title, line);
            }
        }
    }

    /** A run begins with a new object and has nothing else than calls with their answers. */
    private void readLineOfRun(String title, String line) {
        if (bundler == null) {
            Calls.due(title + " makes a new object (1 is yes)", line.equals(NEW_OBJECT) ? 1 : 0, 1);
            bundler = new SlotBundler();
            return;
        }
        Matcher matcher = CALL.matcher(line);
        if (!matcher.matches()) {
            throw new IllegalStateException(title + " is no call with an answer: " + line);
        }
        String call = matcher.group(1);
        shownCalls.add(call.substring(0, call.indexOf('(')));
        Calls.go(title, bundler, call + " -> " + number(matcher.group(2)));
    }

    private void readErrorCode(String title, String line) {
        Matcher matcher = ERROR_CODE.matcher(line);
        if (matcher.matches()) {
            shownCodes.add(matcher.group(1));
            Calls.due(title + ": " + matcher.group(1), number(matcher.group(1)), Long.parseLong(matcher.group(2)));
        }
    }

    private static long number(String answer) {
        if (answer.equals("Long.MIN_VALUE")) {
            return Long.MIN_VALUE;
        }
        if (!Character.isLetter(answer.charAt(0))) {
            return Long.parseLong(answer);
        }
        try {
            return SlotBundler.class.getField(answer).getInt(null);
        } catch (ReflectiveOperationException e) {
            throw new IllegalStateException("no constant of the class: " + answer, e);
        }
    }

    private void showsEverything() throws IOException {
        Calls.due("README.md: runs (1 is some)", runs > 0 ? 1 : 0, 1);
        for (Method method : Calls.methodsOf(SlotBundler.class).values()) {
            Calls.due("README.md shows " + method.getName(), shownCalls.contains(method.getName()) ? 1 : 0, 1);
        }
        Calls.due("README.md: error codes", shownCodes.size(), SlotBundler.class.getFields().length);
    }
}
