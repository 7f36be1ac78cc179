import java.io.IOException;
import java.nio.file.Files;
import java.nio.file.Path;
import java.util.ArrayList;
import java.util.List;

/** The example of README.md: it is the one that runs here, line by line, and answers what is written there. */
final class ReadmeTests {
    private static final Path README = Path.of("README.md");
    private static final Path HERE = Path.of("src/test/java/ReadmeTests.java");

    private ReadmeTests() {
    }

    private static void example() {
        // ---- the example
        Amendmark law = new Amendmark();
        Check.same("act", law.act(), 0);
        Check.same("word", law.word(7, true), 1);
        Check.same("word", law.word(8, true), 2);
        int provision = law.enact(Amendmark.NONE, 5, 1);
        Check.same("pass", law.pass(10), 10);
        Check.same("act", law.act(), 1);
        law.terms(Amendmark.ON_DAY, 12, 7, Amendmark.NONE);
        Check.same("word", law.word(8, false), 1);
        Check.same("word", law.word(9, true), 1);
        Check.same("instruct", law.instruct(Amendmark.SUBSTITUTE, provision, 0, 0), 1);
        Check.same("look", law.look(12, 10, 0), 1);
        Check.same("wordAt", law.wordAt(provision, 1), 9);
        Check.same("origin", law.origin(provision, 1), 1);
        // ---- its end
        Check.same("5a", law.label(provision), 5001);
        Check.same("7 9", law.wordAt(provision, 0), 7);
        Check.same("7 9", law.words(provision), 2);
        Check.same("a day ahead", law.look(11, 10, 0), 1);
        Check.same("7 8", law.wordAt(provision, 1), 8);
        Check.same("as known a day ahead", law.look(12, 9, 0), 1);
        Check.same("7 8", law.wordAt(provision, 1), 8);
    }

    private static List<String> between(Path file, String first, String last) throws IOException {
        List<String> lines = new ArrayList<>();
        boolean isBetween = false;
        for (String line : Files.readAllLines(file)) {
            if (isBetween && line.trim().equals(last)) {
                return lines;
            }
            if (isBetween) {
                lines.add(line.trim());
            }
            isBetween = isBetween || line.trim().equals(first);
        }
        return lines;
    }

    /** The call of a line, without what is checked or written beside it. */
    private static String callOf(String line) {
        String call = line.contains("//") ? line.substring(0, line.indexOf("//")).trim() : line;
        int checked = call.startsWith("Check.same(") ? call.indexOf("law.") : 0;
        int end = checked > 0 ? call.lastIndexOf(", ") : call.length();
        return call.substring(Math.max(0, checked), end) + (checked > 0 ? ";" : "");
    }

    private static void isTheOneWritten() throws IOException {
        List<String> written = between(README, "```java", "```").stream().map(ReadmeTests::callOf).toList();
        List<String> run = between(HERE, "// ---- the example", "// ---- its end").stream().map(ReadmeTests::callOf).toList();
        Check.holds("README.md has the example " + run + ", and not " + written, written.equals(run));
        Check.same("lines of the example", written.size(), 14);
    }

    public static void main(String[] args) throws IOException {
        example();
        isTheOneWritten();
        Check.end();
    }
}
