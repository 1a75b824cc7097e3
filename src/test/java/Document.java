import java.io.IOException;
import java.nio.file.Files;
import java.nio.file.Path;
import java.util.regex.Matcher;
import java.util.regex.Pattern;

/**
 * The document, and which of its words a test has quoted: so that no test speaks of a sentence that is not there,
 * and no sentence that names a boundary case is left without a test.
 */
final class Document {
    private static final Path PLACE = Path.of("../shared/DOC.md");
    /** Words that tell of a boundary case. */
    private static final Pattern BOUNDARY = Pattern.compile("\\b(NO_SUCH|BAD_VALUE|TOO_MANY|NOT_POSSIBLE|NONE"
        + "|\\d+ to \\d+|from \\d+|\\d+ at first|There are \\d+|at most|at least|up to|up to and including|empty"
        + "|beyond|backwards|around|farther|less|rounded|modulo|or more|already|in the race|early|oldest|latest"
        + "|above \\d+|below \\d+|only in|without|no other|does not|did not|do not|never|not an action|not change"
        + "|changes nothing|even if|first|last|lowest|fewest coins|previous|other pieces|remains|any number"
        + "|if it would not|0\\.0|0 if)\\b");

    private final String text;
    private final boolean[] quoted;
    private String heading = "";

    Document() throws IOException {
        text = Files.readString(PLACE);
        quoted = new boolean[text.length()];
    }

    /** The next sentences stand under this heading. */
    void section(String newHeading) {
        heading = newHeading;
    }

    /** Runs the test of a sentence, or of the part of one that names a boundary case. */
    void sentence(String words, Runnable test) {
        Checks.about(heading + ", '" + words + "'");
        int place = text.indexOf(words, startOf(heading));
        boolean isThere = place >= 0 && place + words.length() <= endOf(heading);
        Checks.holds("is in the document", isThere);
        for (int i = 0; isThere && i < words.length(); i++) {
            quoted[place + i] = true;
        }
        int before = Checks.made();
        test.run();
        Checks.holds("is tested", Checks.made() > before);
    }

    /** Each word under the heading that tells of a boundary case has to be quoted by now. */
    void nothingLeftOut(String ofHeading) {
        Checks.about(ofHeading);
        Matcher boundary = BOUNDARY.matcher(text).region(startOf(ofHeading), endOf(ofHeading));
        while (boundary.find()) {
            boolean isQuoted = true;
            for (int i = boundary.start(); i < boundary.end(); i++) {
                isQuoted &= quoted[i];
            }
            Checks.holds("a test of '" + around(boundary.start(), boundary.end()) + "'", isQuoted);
        }
    }

    private String around(int from, int to) {
        return text.substring(Math.max(0, from - 50), Math.min(text.length(), to + 50)).replace('\n', ' ');
    }

    private int startOf(String ofHeading) {
        Matcher line = Pattern.compile("(?m)^#+ " + Pattern.quote(ofHeading) + "(:|$)").matcher(text);
        return line.find() ? line.end() : text.length();
    }

    /** The headings within a section begin sections of their own. */
    private int endOf(String ofHeading) {
        int next = text.indexOf("\n#", startOf(ofHeading));
        return next < 0 ? text.length() : next;
    }
}
