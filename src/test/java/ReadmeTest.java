import java.io.IOException;
import java.nio.file.Files;
import java.nio.file.Path;
import java.util.regex.Matcher;
import java.util.regex.Pattern;

/** The examples in README.md, one after the other on one object, answer what their comments say. */
public final class ReadmeTest {
    private static final Pattern OBJECT = Pattern.compile("TopicLedgers topic = new TopicLedgers\\((\\d+), (\\d+), (\\d+), (\\d+)\\);.*");
    private static final Pattern LINE = Pattern.compile("topic\\.(\\w+\\([^)]*\\));(?:\\s*// (-?\\d+|true|false|\\w+Exception): .*)?.*");
    private static final int LEAST_CALLS = 20;

    public static void main(String[] args) throws IOException {
        Script script = new Script();
        Run run = null;
        int calls = 0;
        for (String line : Files.readAllLines(Path.of("README.md"))) {
            Matcher object = OBJECT.matcher(line);
            if (object.matches()) {
                run = new Run(number(object, 1), number(object, 2), number(object, 3), number(object, 4));
            }
            Matcher call = LINE.matcher(line);
            if (call.matches()) {
                script.check("README.md", run, Call.of(call.group(1)), due(call.group(2)));
                calls++;
            }
        }
        if (calls < LEAST_CALLS) {
            System.out.println("README.md has only " + calls + " calls that can be read");
            System.exit(1);
        }
        script.end();
    }

    private static int number(Matcher matcher, int group) {
        return Integer.parseInt(matcher.group(group));
    }

    private static String due(String comment) {
        if (comment == null) {
            return Call.NOTHING;
        }
        return comment.endsWith("Exception") ? comment.replaceAll("[a-z]", "") : comment;
    }
}
