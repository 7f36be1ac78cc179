import java.io.IOException;
import java.nio.charset.StandardCharsets;
import java.nio.file.Files;
import java.nio.file.Path;

/** The document, and which of its words a test has taken up, so that no sentence is left without one. */
final class Doc {
    private static final Path PLACE = Path.of("../shared/DOC.md");
    private static final String TEXT = read();
    private static final boolean[] TAKEN = new boolean[TEXT.length()];
    private static int from = 0;
    private static int to = TEXT.length();

    private Doc() {
    }

    private static String read() {
        try {
            return Files.readString(PLACE, StandardCharsets.UTF_8);
        } catch (IOException e) {
            throw new IllegalStateException("the document is not at " + PLACE.toAbsolutePath(), e);
        }
    }

    /** What is quoted from now on stands under this heading. */
    static void open(String heading) {
        int at = TEXT.indexOf("# " + heading + "\n");
        Check.holds("the heading '" + heading + "' is in the document", at >= 0);
        from = at < 0 ? 0 : at + heading.length() + 3;
        int next = TEXT.indexOf("\n#", from);
        to = next < 0 ? TEXT.length() : next + 1;
    }

    /** The test that begins here is that of these words. */
    static void says(String words) {
        Check.about(words);
        take(words);
    }

    /** Words that name no boundary case of their own. */
    static void tells(String... words) {
        for (String one : words) {
            Check.about(one);
            take(one);
        }
    }

    private static void take(String words) {
        int at = TEXT.indexOf(words, from);
        while (at >= 0 && at < to && TAKEN[at]) {
            at = TEXT.indexOf(words, at + 1);
        }
        boolean isThere = at >= 0 && at + words.length() <= to;
        Check.holds("the document says '" + words + "' where it is quoted", isThere);
        for (int k = 0; isThere && k < words.length(); k++) {
            TAKEN[at + k] = true;
        }
    }

    /** What no test has quoted, from one heading up to another. */
    static void isTakenUp(String first, String behind) {
        Check.about("");
        int at = TEXT.indexOf("# " + first + "\n");
        int end = TEXT.indexOf("# " + behind + "\n");
        Check.holds("both headings are in the document", at >= 0 && end > at);
        for (int k = at; k >= 0 && k < end; k = TEXT.indexOf('\n', k) + 1) {
            String left = leftOf(k, TEXT.indexOf('\n', k));
            Check.holds("that a test takes up '" + left + "'", left.isEmpty());
        }
    }

    /** The words of a line that no test has quoted; headings, and the faces of the methods, need none. */
    private static String leftOf(int begin, int end) {
        String line = TEXT.substring(begin, end);
        if (line.startsWith("#")) {
            return "";
        }
        int face = line.startsWith("`") && line.contains(")") ? line.indexOf("`: ") + 3 : 0;
        StringBuilder left = new StringBuilder();
        for (int k = begin + face; k < end; k++) {
            left.append(TAKEN[k] ? ' ' : TEXT.charAt(k));
        }
        String words = left.toString().trim();
        return words.matches("[-;:,. ]*") ? "" : words;
    }
}
