import java.io.IOException;
import java.nio.file.Files;
import java.nio.file.Path;
import java.util.ArrayList;
import java.util.List;

/** The text of the program. */
final class Source {
    static final Path PLACE = Path.of("src/main/java/Amendmark.java");
    private static final String PUBLIC = "    public ";
    private static final String HEADING = "    // ----";

    private Source() {
    }

    static List<String> lines() {
        try {
            return Files.readAllLines(PLACE);
        } catch (IOException e) {
            throw new IllegalStateException("the program is not at " + PLACE.toAbsolutePath(), e);
        }
    }

    /** The lines that open the class and its public members, in their order. */
    static List<String> publicLines() {
        return lines().stream().filter(line -> line.startsWith(PUBLIC) || line.startsWith("public ")).toList();
    }

    /** The public methods behind a heading, up to the next heading. */
    static List<String> callsUnder(String heading) {
        List<String> calls = new ArrayList<>();
        boolean isUnder = false;
        for (String line : lines()) {
            if (line.startsWith(HEADING)) {
                isUnder = line.equals(HEADING + " " + heading);
            } else if (isUnder && line.startsWith(PUBLIC)) {
                String ahead = line.substring(0, line.indexOf('('));
                calls.add(ahead.substring(ahead.lastIndexOf(' ') + 1));
            }
        }
        return calls;
    }
}
