import java.io.IOException;
import java.nio.file.Files;
import java.nio.file.Path;
import java.util.ArrayList;
import java.util.List;
import java.util.TreeSet;
import java.util.regex.Matcher;
import java.util.regex.Pattern;

/** What README.md says: its example answers so, and its table of calls is the document's, with the same refusals. */
public final class ReadmeTest {
    private static final Checks CHECKS = new Checks();
    private static final Pattern TEXT = Pattern.compile("text = \"([^\"]*)\"");
    private static final Pattern ROW = Pattern.compile("x\\.(\\w+\\([^)]*\\)); +// (-?\\d+)(:.*)?");
    private static final Pattern PROMISE = Pattern.compile("## Promise (\\d+): (\\w+)\n\n`(?:int|long) (\\w+)\\(([^)]*)\\)`:([^\n]*)");
    private static final Pattern TABLE_ROW = Pattern.compile("\\| (\\d+) \\| `(\\w+\\([^)]*\\))` \\|[^|]*\\|([^|]*)\\|");
    private static final Pattern REFUSAL = Pattern.compile("-[12346]\\b");

    private ReadmeTest() {
    }

    public static void main(String[] args) throws IOException {
        String readme = Files.readString(Path.of("README.md"));
        exampleAnswersSo(readme);
        tableIsTheDocuments(readme, Files.readString(Path.of("../shared/DOC.md")));
        CHECKS.end();
    }

    private static void exampleAnswersSo(String readme) {
        int begin = readme.indexOf("```java\n");
        String example = readme.substring(begin, readme.indexOf("```\n", begin + 3));
        TreeSet<String> called = new TreeSet<>();
        Calls calls = null;
        String text = "";
        for (String line : example.split("\n")) {
            Matcher told = TEXT.matcher(line);
            if (told.find()) {
                text = told.group(1);
            }
            if (line.contains("new PaidInDays()")) {
                calls = new Calls(CHECKS, "README.md");
            } else if (line.contains("x.letter(text.charAt(i))")) {
                calls.letters(text);
                called.add("letter");
            } else if (line.startsWith("x.")) {
                Matcher row = ROW.matcher(line);
                CHECKS.holds("a row with its answer: " + line, row.matches());
                calls.is(row.group(1), Long.parseLong(row.group(2)));
                called.add(row.group(1).substring(0, row.group(1).indexOf('(')));
            }
        }
        CHECKS.due("the example has every call: " + called, called.size(), 34);
    }

    private static List<String> refusals(String text) {
        List<String> found = new ArrayList<>();
        // These two are no refusals of the call, but what it is asked or what it counts.
        Matcher matcher = REFUSAL.matcher(text.replace("worker -1", "").replace("REFUSALS -1 .. -6", ""));
        while (matcher.find()) {
            found.add(matcher.group());
        }
        return found;
    }

    private static void tableIsTheDocuments(String readme, String document) {
        Matcher promise = PROMISE.matcher(document);
        Matcher row = TABLE_ROW.matcher(readme);
        int found = 0;
        while (promise.find()) {
            found++;
            String call = promise.group(3) + "(" + promise.group(4).replace("int ", "") + ")";
            CHECKS.holds("the table has a row for " + call, row.find());
            CHECKS.holds("promise " + promise.group(1) + " in its order: " + row.group(), row.group(1).equals(promise.group(1)));
            CHECKS.holds(call + " in its row: " + row.group(), row.group(2).equals(call));
            CHECKS.holds(call + " is refused by " + refusals(promise.group(5)) + ": " + row.group(),
                refusals(row.group(3)).equals(refusals(promise.group(5))));
        }
        // Promise 1, a new object, is no call.
        CHECKS.due("calls in the document", found, 34);
        CHECKS.holds("no row more", !row.find());
    }
}
