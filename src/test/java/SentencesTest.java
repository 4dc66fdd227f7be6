import java.io.IOException;
import java.nio.charset.StandardCharsets;
import java.nio.file.Files;
import java.nio.file.Path;
import java.util.BitSet;
import java.util.Set;
import java.util.TreeSet;
import java.util.regex.Matcher;
import java.util.regex.Pattern;

/**
 * Each test of a single sentence says its promise and the sentence in its first remark, as the document has them; and
 * nothing that the document says, from its Terms to its last promise, is left that no test quotes.
 */
final class SentencesTest {
    private static final Check CHECK = new Check();
    private static final String[] FILES = {"EdgeTextTest", "EdgeStepTest", "EdgeTurnTest", "EdgeAskTest", "OrdinaryTest"};
    private static final Pattern TEST = Pattern.compile(
        "(/\\*\\*((?:(?!\\*/).)*)\\*/)?\\s*(?:private )?static void (promise(\\d\\d)_\\w+)\\(\\)", Pattern.DOTALL);
    private static final Pattern REMARK = Pattern.compile("\\s*Promise (\\d+)(?:, Terms (\\d))?: (\".*)", Pattern.DOTALL);
    private static final Pattern HEADING = Pattern.compile("## Promise \\d+: [^`]*`[^`]*`|==== \\d\\.|```(text)?");
    private static final String FIRST = "==== 1.";
    private static final String LAST = "## Not promised";

    // Where the document isn't at hand the remarks' form is looked at alone.
    private static String doc = "";
    private static final BitSet QUOTED = new BitSet();

    public static void main(String[] args) throws IOException {
        Path path = Path.of("../shared/DOC.md");
        if (Files.exists(path)) {
            doc = oneLine(Files.readString(path, StandardCharsets.UTF_8));
        }
        Set<Integer> promises = new TreeSet<>();
        for (String file : FILES) {
            Matcher m = TEST.matcher(Files.readString(Path.of("src/test/java", file + ".java"), StandardCharsets.UTF_8));
            while (m.find()) {
                promises.add(Integer.parseInt(m.group(4)));
                test(m.group(3), Integer.parseInt(m.group(4)), m.group(2) == null ? "" : m.group(2));
            }
        }
        for (int n = 1; n <= 35; n++) {
            CHECK.due("a test of promise " + n, promises.contains(n), true);
        }
        allIsQuoted();
        CHECK.end();
    }

    private static String oneLine(String s) {
        return s.replaceAll("\\s+", " ");
    }

    private static void test(String name, int promise, String remark) {
        Matcher m = REMARK.matcher(oneLine(remark.replaceAll("\n\\s*\\*", "\n")));
        CHECK.due("the remark of " + name, m.matches(), true);
        if (!m.matches()) {
            return;
        }
        CHECK.due("the promise of " + name, Integer.parseInt(m.group(1)), promise);
        String part = m.group(2) == null ? "## Promise " + promise + ":" : "==== " + m.group(2) + ".";
        Matcher quotes = Pattern.compile("\"([^\"]*)\"").matcher(m.group(3));
        while (quotes.find() && !doc.isEmpty()) {
            for (String piece : quotes.group(1).split("\\[\\.\\.\\.\\]")) {
                CHECK.due("the document has what " + name + " quotes: " + piece, quote(part, piece.trim()), true);
            }
        }
    }

    /** Marks what is quoted wherever that part of the document has it; whether it has it at all. */
    private static boolean quote(String part, String piece) {
        int start = doc.indexOf(part);
        Matcher next = Pattern.compile("## |==== \\d").matcher(doc);
        int end = start >= 0 && next.find(start + 1) ? next.start() : doc.length();
        boolean found = false;
        for (int at = doc.indexOf(piece, Math.max(start, 0)); at >= 0 && at < end; at = doc.indexOf(piece, at + 1)) {
            QUOTED.set(at, at + piece.length());
            found = true;
        }
        return found && start >= 0;
    }

    private static void allIsQuoted() {
        Matcher m = HEADING.matcher(doc);
        while (m.find()) {
            QUOTED.set(m.start(), m.end());
        }
        int end = doc.indexOf(LAST);
        int at = Math.max(doc.indexOf(FIRST), 0);
        while (at < end) {
            int from = QUOTED.nextClearBit(at);
            int to = QUOTED.nextSetBit(from);
            at = to < 0 ? end : to;
            String left = from < end ? doc.substring(from, Math.min(at, end)) : "";
            CHECK.due("quoted by no test: " + left, left.matches(".*[A-Za-z0-9].*"), false);
        }
    }
}
