import java.io.IOException;
import java.nio.charset.StandardCharsets;
import java.nio.file.Files;
import java.nio.file.Path;
import java.util.List;

/** The document, and which of its words a test has taken up, so that no sentence is left without one. */
final class Doc {
    private static final Path PLACE = Path.of("../shared/DOC.md");
    private static final String TEXT = read();
    private static final boolean[] TAKEN = new boolean[TEXT.length()];
    private static int from = 0;
    private static int to = TEXT.length();

    private Doc() {
    }

    private static String read() {
        try {
            return Files.readString(PLACE, StandardCharsets.UTF_8);
        } catch (IOException e) {
            throw new IllegalStateException("the document is not at " + PLACE.toAbsolutePath(), e);
        }
    }

    /** What is quoted from now on stands under this heading. */
    static void open(String heading) {
        int at = TEXT.indexOf("# " + heading + "\n");
        Check.holds("the heading '" + heading + "' is in the document", at >= 0);
        from = at < 0 ? 0 : at + heading.length() + 3;
        int next = TEXT.indexOf("\n#", from);
        to = next < 0 ? TEXT.length() : next + 1;
    }

    /** The test that begins here is that of these words. */
    static void says(String words) {
        Check.about(words);
        take(words);
    }

    /** Words that name no boundary case of their own. */
    static void tells(String... words) {
        for (String one : words) {
            Check.about(one);
            take(one);
        }
    }

    private static void take(String words) {
        int at = TEXT.indexOf(words, from);
        while (at >= 0 && at < to && TAKEN[at]) {
            at = TEXT.indexOf(words, at + 1);
        }
        boolean isThere = at >= 0 && at + words.length() <= to;
        Check.holds("the document says '" + words + "' where it is quoted", isThere);
        for (int k = 0; isThere && k < words.length(); k++) {
            TAKEN[at + k] = true;
        }
    }

    /** The lines under the heading that was opened last. */
    static List<String> lines() {
        return TEXT.substring(from, to).lines().filter(line -> !line.isBlank()).toList();
    }

    /** The faces that the promises tell, each at the head of its own. */
    static List<String> promised() {
        return TEXT.lines().filter(line -> line.matches("`[^`]*\\)[^`]*`: .*"))
            .map(line -> line.substring(1, line.indexOf('`', 1))).toList();
    }

    /** What no test has quoted, from the first line to the last one. */
    static void isTakenUp() {
        Check.about("");
        int begin = 0;
        while (begin < TEXT.length()) {
            int end = TEXT.indexOf('\n', begin);
            end = end < 0 ? TEXT.length() : end;
            String left = leftOf(begin, end);
            Check.holds("that a test takes up '" + left + "'", left.isEmpty());
            begin = end + 1;
        }
    }

    /** The words of a line that no test has quoted; headings need none, and the faces of the promises are held against the face. */
    private static String leftOf(int begin, int end) {
        String line = TEXT.substring(begin, end);
        if (line.startsWith("#")) {
            return "";
        }
        int face = line.startsWith("`") && line.contains(")") ? line.indexOf("`: ") + 3 : 0;
        StringBuilder left = new StringBuilder();
        for (int k = begin + face; k < end; k++) {
            left.append(TAKEN[k] ? ' ' : TEXT.charAt(k));
        }
        String words = left.toString().trim();
        return words.matches("[-;:,. ]*") ? "" : words;
    }
}
