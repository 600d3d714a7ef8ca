import java.io.IOException;
import java.nio.file.Files;
import java.nio.file.Path;
import java.util.Arrays;
import java.util.TreeSet;
import java.util.regex.Matcher;
import java.util.regex.Pattern;

/** The calls that README.md shows answer as it says, and each call of the face is among them. */
public final class ReadmeTest {
    private static final Path README = Path.of("README.md");
    private static final String NEW = "ObjectRows rows = new ObjectRows();";
    /** A call, and behind it its answer, which may be followed by a colon and words. */
    private static final Pattern LINE = Pattern.compile("rows\\.((\\w+)\\(.*?\\)); +// ([^:]+)(:.*)?");
    private static final String[] FACE = {
        "attribute", "compare", "entry", "get", "kind", "length", "look", "make", "part", "put", "restore", "same",
        "told", "used",
    };

    private static final Due due = new Due();

    public static void main(String[] args) throws IOException {
        ObjectRows rows = new ObjectRows();
        TreeSet<String> shown = new TreeSet<>();
        for (String line : Files.readAllLines(README)) {
            if (line.equals(NEW)) {
                rows = new ObjectRows();
            } else if (line.startsWith("rows.")) {
                shown.add(tried(rows, line));
            }
        }
        due.yes("shown are only " + shown, shown.equals(new TreeSet<>(Arrays.asList(FACE))));
        due.end();
    }

    /** Answers the name of the call. */
    private static String tried(ObjectRows rows, String line) {
        Matcher found = LINE.matcher(line);
        if (!found.matches()) {
            due.tell("no call and answer: " + line);
            return "";
        }
        due.is(line, Call.read(found.group(1)).on(rows), answer(found.group(3)));
        return found.group(2);
    }

    private static long answer(String text) {
        switch (text) {
            case "true": return 1;
            case "false": return 0;
            case "throws ArrayIndexOutOfBoundsException": return Call.THROWN;
            default: return Long.parseLong(text);
        }
    }
}
