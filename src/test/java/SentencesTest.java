import java.io.IOException;
import java.nio.charset.StandardCharsets;
import java.nio.file.Files;
import java.nio.file.Path;
import java.util.Set;
import java.util.TreeSet;
import java.util.regex.Matcher;
import java.util.regex.Pattern;

/** Each test of a single sentence says its promise and the sentence in its first remark, as the document has them. */
final class SentencesTest {
    private static final Check CHECK = new Check();
    private static final String[] FILES = {"EdgeTextTest", "EdgeStepTest", "EdgeTurnTest", "EdgeAskTest"};
    private static final Pattern TEST = Pattern.compile("(/\\*\\*((?:(?!\\*/).)*)\\*/)?\\s*(?:private )?static void (promise(\\d\\d)_\\w+)\\(\\)",
        Pattern.DOTALL);
    private static final Pattern REMARK = Pattern.compile("\\s*Promise (\\d+)(?:, Terms (\\d))?: (\".*)", Pattern.DOTALL);

    public static void main(String[] args) throws IOException {
        Path path = Path.of("../shared/DOC.md");
        // Where the document isn't at hand the remarks' form is looked at alone.
        String doc = Files.exists(path) ? oneLine(Files.readString(path, StandardCharsets.UTF_8)) : "";
        Set<Integer> promises = new TreeSet<>();
        for (String file : FILES) {
            Matcher m = TEST.matcher(Files.readString(Path.of("src/test/java", file + ".java"), StandardCharsets.UTF_8));
            while (m.find()) {
                promises.add(Integer.parseInt(m.group(4)));
                test(m.group(3), Integer.parseInt(m.group(4)), m.group(2) == null ? "" : oneLine(m.group(2)), doc);
            }
        }
        for (int n = 1; n <= 35; n++) {
            CHECK.due("a test of promise " + n, promises.contains(n), true);
        }
        CHECK.end();
    }

    private static String oneLine(String s) {
        return s.replaceAll("\\s+", " ");
    }

    private static void test(String name, int promise, String remark, String doc) {
        Matcher m = REMARK.matcher(remark);
        CHECK.due("the remark of " + name, m.matches(), true);
        if (!m.matches()) {
            return;
        }
        CHECK.due("the promise of " + name, Integer.parseInt(m.group(1)), promise);
        String part = m.group(2) == null
            ? between(doc, "## Promise " + promise + ":", promise == 35 ? "## Not promised" : "## Promise " + (promise + 1) + ":")
            : between(doc, "==== " + m.group(2) + ".", m.group(2).equals("4") ? "## Promise 1:" : "==== " + (Integer.parseInt(m.group(2)) + 1));
        Matcher quotes = Pattern.compile("\"([^\"]*)\"").matcher(m.group(3));
        while (quotes.find() && !doc.isEmpty()) {
            for (String piece : quotes.group(1).split("\\[\\.\\.\\.\\]")) {
                CHECK.due("the document has what " + name + " quotes: " + piece, part.contains(piece.trim()), true);
            }
        }
    }

    private static String between(String doc, String from, String to) {
        int start = doc.indexOf(from);
        int end = doc.indexOf(to, start + 1);
        return start < 0 || end < 0 ? "" : doc.substring(start, end);
    }
}
