import java.io.IOException;
import java.nio.file.Files;
import java.nio.file.Path;
import java.util.Arrays;
import java.util.List;
import java.util.Set;
import java.util.TreeSet;
import java.util.regex.Matcher;
import java.util.regex.Pattern;

/** Makes the calls that README.md shows, and holds their answers against its comments. */
public final class ReadmeTest {
    private static final String BEGIN = "```java";
    private static final String END = "```";
    private static final String NEW_OBJECT = "BridgeNet net = new BridgeNet();";
    private static final Pattern CALL =
            Pattern.compile("net\\.(\\w+)\\(([-0-9, ]*)\\);\\s+// (.+)");
    private static final List<String> NAMES = Arrays.asList(Call.NAMES);

    private final Set<String> shown = new TreeSet<>();
    private BridgeNet net = null;

    public static void main(String[] args) throws IOException {
        ReadmeTest test = new ReadmeTest();
        boolean inJava = false;
        for (String line : Files.readAllLines(Path.of("README.md"))) {
            if (line.equals(BEGIN)) {
                inJava = true;
            } else if (line.equals(END)) {
                inJava = false;
            } else if (inJava) {
                test.take(line);
            }
        }
        for (String name : NAMES) {
            Check.yes("README.md shows " + name, test.shown.contains(name));
        }
        Check.end();
    }

    private void take(String line) {
        if (line.equals(NEW_OBJECT)) {
            net = new BridgeNet();
            return;
        }
        Matcher parts = CALL.matcher(line);
        if (!parts.matches() || !NAMES.contains(parts.group(1))) {
            Check.report("README.md shows what is no call with its answer: " + line);
            return;
        }
        shown.add(parts.group(1));
        Call call = Call.of(NAMES.indexOf(parts.group(1)), numbers(parts.group(2)));
        String due = due(parts.group(1), parts.group(3));
        String got = call.on(net);
        if (!got.equals(due)) {
            Check.report("README.md: " + call + " answered " + got + ", due is " + due);
        }
    }

    private static int[] numbers(String text) {
        return text.isEmpty() ? new int[0]
                : Arrays.stream(text.split(", ")).mapToInt(Integer::parseInt).toArray();
    }

    /** What stands before the comment's colon, in the words of Call. */
    private static String due(String name, String comment) {
        if (comment.startsWith("throws ")) {
            return "throws." + comment.substring("throws ".length(), comment.indexOf(':'));
        }
        boolean answersNothing = name.equals("attach") || name.equals("tick");
        return answersNothing ? "void" : comment.substring(0, Math.max(0, comment.indexOf(':')));
    }
}
