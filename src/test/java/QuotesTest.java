import java.io.IOException;
import java.nio.file.Files;
import java.nio.file.Path;
import java.util.HashSet;
import java.util.LinkedHashMap;
import java.util.Map;
import java.util.Set;

/** The sentences that BoundariesTest is of stand in the document, and no promise is left out. */
public final class QuotesTest {
    private static final Path DOCUMENT = Path.of("../shared/DOC.md");
    private static final String MARK = "## ";

    private static final Checks checks = new Checks();

    public static void main(String[] args) throws IOException {
        Map<String, String> chapters = chapters();
        Set<String> quoted = new HashSet<>();
        for (Sentences.Sentence s : BoundariesTest.sentences(checks).all()) {
            String where = s.heading() + ", \"" + s.words() + "\"";
            checks.isTrue(where, chapters.getOrDefault(s.heading(), "").contains(s.words()));
            checks.isTrue(where + " once alone", quoted.add(where));
            quoted.add(s.heading());
        }
        for (String heading : chapters.keySet()) {
            if (heading.startsWith("Promise ")) {
                checks.isTrue("a quotation of " + heading, quoted.contains(heading));
            }
        }
        checks.finish();
    }

    private static Map<String, String> chapters() throws IOException {
        Map<String, String> chapters = new LinkedHashMap<>();
        String heading = "";
        for (String line : Files.readAllLines(DOCUMENT)) {
            if (line.startsWith(MARK)) {
                heading = line.substring(MARK.length());
            } else {
                chapters.merge(heading, line, (before, next) -> before + "\n" + next);
            }
        }
        return chapters;
    }
}
