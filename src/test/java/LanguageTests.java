import java.io.IOException;
import java.nio.file.Files;
import java.nio.file.Path;
import java.util.List;
import java.util.regex.Matcher;
import java.util.regex.Pattern;

/** What a look at the text can tell of the rules of ../shared/LANGUAGE.md. */
final class LanguageTests {
    private static final Path SOURCE = Path.of("src/main/java/Amendmark.java");
    private static final String[] BANNED = {
        "->", "::", "\\btry\\b", "\\bcatch\\b", "\\bfinally\\b", "\\bsynchronized\\b", "\\bassert\\b",
        "\\bMath\\.\\w+Exact\\b", "\\bObject\\b", "\\bpackage\\b", "\\bstream\\b", "\\bSystem\\.(?!arraycopy)",
        "\\.(equals|hashCode|toString)\\(", "\\bextends\\b(?! )", "\"\\s*\\+", "\\+\\s*\"", "static\\s*\\{",
    };

    private static int count(String text, String pattern) {
        Matcher matcher = Pattern.compile(pattern).matcher(text);
        int found = 0;
        while (matcher.find()) {
            found++;
        }
        return found;
    }

    private static void methodLengths(List<String> lines) {
        int begun = -1;
        for (int k = 0; k < lines.size(); k++) {
            String line = lines.get(k);
            if (line.matches(" {4}( {4})?[^ /*].*\\) ?(throws .*)?\\{")) {
                begun = k;
            }
            if (begun >= 0 && line.matches(" {4}( {4})?\\}")) {
                Check.holds("the method at line " + (begun + 1) + " is short", k - begun <= 60);
                begun = -1;
            }
        }
    }

    public static void main(String[] args) throws IOException {
        String text = Files.readString(SOURCE);
        for (String banned : BANNED) {
            Check.same("places with " + banned, count(text, banned), 0);
        }
        Check.same("imports but ArrayList", count(text, "(?m)^import (?!java\\.util\\.ArrayList;)"), 0);
        Check.same("signs beyond 127", count(text, "[^\\x00-\\x7f]"), 0);
        Check.holds("some twelve classes", count(text, "\\bclass \\w+") <= 12);
        Check.same("throws with other than a written text",
            count(text, "\\bthrow\\b") - count(text, "throw new Illegal(Argument|State)Exception\\(\"[^\"]*\"\\);")
            - count(text, "throw new IndexOutOfBoundsException\\(\"[^\"]*\"\\);"), 0);
        methodLengths(Files.readAllLines(SOURCE));
        Check.end();
    }
}
