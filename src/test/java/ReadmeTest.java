import java.io.IOException;
import java.nio.file.Files;
import java.nio.file.Path;
import java.util.Arrays;
import java.util.Set;
import java.util.TreeSet;
import java.util.regex.Matcher;
import java.util.regex.Pattern;

/** README.md: the calls of its example answer what stands behind them, and its table has every call. */
public final class ReadmeTest extends Check {
    private static final Pattern CALL = Pattern.compile("x\\.(\\w+)\\((.*)\\); *// (-?\\d+)(:.*)?");
    private static final Pattern ROW = Pattern.compile("\\| `(\\w+)\\(.*");
    private static final Set<String> CALLS = new TreeSet<>(Arrays.asList(
            "feed", "end", "read", "sign", "different", "first", "compare", "apart", "nearest", "plain"));

    public static void main(String[] args) {
        runTests(ReadmeTest.class);
    }

    static void theExampleAnswersWhatItSays() throws IOException {
        Run run = new Run();
        Set<String> shown = new TreeSet<>();
        for (String line : readme()) {
            Matcher call = CALL.matcher(line);
            if (call.matches()) {
                shown.add(call.group(1));
                due(line, call(run, call.group(1), numbers(call.group(2))), Integer.parseInt(call.group(3)));
            } else {
                due("is a call without its answer: " + line, line.startsWith("x."), false);
            }
        }
        due("the calls of the example", shown, CALLS);
    }

    static void theTableHasEveryCall() throws IOException {
        Set<String> told = new TreeSet<>();
        for (String line : readme()) {
            Matcher row = ROW.matcher(line);
            if (row.matches()) {
                told.add(row.group(1));
            }
        }
        due("the calls of the table", told, CALLS);
    }

    private static Iterable<String> readme() throws IOException {
        return Files.readAllLines(Path.of("README.md"));
    }

    private static int[] numbers(String list) {
        return list.isEmpty() ? new int[0] : Arrays.stream(list.split(", ")).mapToInt(Integer::decode).toArray();
    }

    private static int call(Run run, String name, int[] n) {
        return switch (name) {
            case "feed" -> run.feed(n[0], n[1], n[2], n[3], n[4]);
            case "end" -> run.end(n[0]);
            case "read" -> run.read();
            case "sign" -> run.sign(n[0], n[1]);
            case "different" -> run.different();
            case "first" -> run.first(n[0]);
            case "compare" -> run.compare(n[0], n[1]);
            case "apart" -> run.apart(n[0]);
            case "nearest" -> run.nearest();
            case "plain" -> run.plain();
            default -> throw new IllegalStateException("no call " + name);
        };
    }
}
