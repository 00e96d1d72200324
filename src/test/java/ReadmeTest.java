import java.io.IOException;
import java.nio.file.Files;
import java.nio.file.Path;
import java.util.ArrayList;
import java.util.List;
import java.util.TreeSet;
import java.util.regex.Matcher;
import java.util.regex.Pattern;

/** README.md: its example answers what it says, and its table has every call of the face. */
public final class ReadmeTest {
    private static final Pattern TEXT = Pattern.compile("\"([^\"]*)\"\\.toCharArray");
    private static final Pattern CALL = Pattern.compile("(?m)^x\\.(\\w+)\\(([^)]*)\\);.*$");
    private static final Pattern DUE = Pattern.compile("^x\\.[^;]*;\\s*// (-?\\d+)\\b.*$");
    private static final Pattern ROW = Pattern.compile("(?m)^\\| `(\\w+)\\((.*?)\\)`");

    public static void main(String[] args) throws IOException {
        String readme = Files.readString(Path.of("README.md"));
        example(readme);
        table(readme);
        Check.end("ReadmeTest");
    }

    private static void example(String readme) {
        Matcher text = TEXT.matcher(readme);
        if (!text.find()) {
            Check.due("texts in README.md", 0, 1);
            return;
        }
        TollDelay x = new TollDelay();
        Check.feed(x, text.group(1));
        int calls = 0;
        Matcher call = CALL.matcher(readme);
        while (call.find()) {
            Matcher due = DUE.matcher(call.group());
            int want = due.matches() ? Integer.parseInt(due.group(1)) : Integer.MIN_VALUE;
            Check.due("README.md: " + call.group(), Edge.call(x, words(call)), want);
            calls++;
        }
        Check.due("README.md has calls", calls > 0 ? 1 : 0, 1);
    }

    private static String words(Matcher call) {
        return (call.group(1) + " " + call.group(2).replace(",", "")).trim();
    }

    private static void table(String readme) {
        List<String> found = new ArrayList<>();
        Matcher row = ROW.matcher(readme);
        while (row.find()) {
            found.add(row.group(1) + " " + (row.group(2).isEmpty() ? 0 : row.group(2).split(",").length));
        }
        Check.due("rows of the table", found.size(), FaceTest.METHODS.length);
        Check.same("calls in the table", "" + new TreeSet<>(found), "" + new TreeSet<>(List.of(FaceTest.METHODS)));
    }
}
