import java.io.IOException;
import java.nio.file.Files;
import java.nio.file.Path;
import java.util.List;
import java.util.regex.Matcher;
import java.util.regex.Pattern;

/**
 * The document, and which of its words a test has quoted: so that no test speaks of a sentence that is not there,
 * and no sentence (for some tests: none that names a boundary case) is left without a test.
 */
final class Document {
    private static final Path PLACE = Path.of("../shared/DOC.md");
    /** Words that tell of a boundary case. */
    private static final Pattern BOUNDARY = Pattern.compile("\\b(NO_SUCH|BAD_VALUE|TOO_MANY|NOT_POSSIBLE|NONE"
        + "|\\d+ to \\d+|from \\d+|\\d+ at first|There are \\d+|at most|at least|up to|up to and including|empty"
        + "|beyond|backwards|around|farther|less|rounded|modulo|or more|already|in the race|early|oldest|latest"
        + "|above \\d+|below \\d+|only in|without|no other|does not|did not|do not|never|not an action|not change"
        + "|changes nothing|even if|first|last|lowest|fewest coins|previous|other pieces|remains|any number"
        + "|if it would not|0\\.0|0 if)\\b");
    private static final Pattern WORD = Pattern.compile("\\w+");
    private static final Pattern HEADING_LINE = Pattern.compile("(?m)^(#|```).*$");

    private final String text;
    private final boolean[] quoted;
    private String heading = "";

    Document() throws IOException {
        text = Files.readString(PLACE);
        quoted = new boolean[text.length()];
    }

    /** The next sentences stand under this heading. */
    void section(String newHeading) {
        heading = newHeading;
    }

    /** Quotes words that promise nothing by themselves. */
    void label(String words) {
        Checks.about(heading + ", '" + words + "'");
        int place = text.indexOf(words, startOf(heading));
        boolean isThere = place >= 0 && place + words.length() <= endOf(heading);
        Checks.holds("is in the document", isThere);
        if (isThere) {
            quote(place, place + words.length());
        }
    }

    /** Runs the test of a sentence, or of a part of one. */
    void sentence(String words, Runnable test) {
        label(words);
        int before = Checks.made();
        test.run();
        Checks.holds("is tested", Checks.made() > before);
    }

    /** The lines under the present heading that are neither empty nor a fence. */
    List<String> lines() {
        return text.substring(startOf(heading), endOf(heading)).lines()
            .filter(line -> !line.isBlank() && !line.startsWith("```")).toList();
    }

    /** Each word under the heading that tells of a boundary case has to be quoted by now. */
    void nothingLeftOut(String ofHeading) {
        Checks.about(ofHeading);
        quotedDue(BOUNDARY.matcher(text).region(startOf(ofHeading), endOf(ofHeading)));
    }

    /** Each word of the document has to be quoted by now, but for the headings. */
    void nothingLeftOut() {
        Matcher line = HEADING_LINE.matcher(text);
        while (line.find()) {
            quote(line.start(), line.end());
        }
        Checks.about("the whole document");
        quotedDue(WORD.matcher(text));
    }

    private void quotedDue(Matcher words) {
        while (words.find()) {
            boolean isQuoted = true;
            for (int i = words.start(); i < words.end(); i++) {
                isQuoted &= quoted[i];
            }
            Checks.holds("a test of '" + words.group() + "' in '" + around(words.start(), words.end()) + "'", isQuoted);
        }
    }

    private void quote(int from, int to) {
        for (int i = from; i < to; i++) {
            quoted[i] = true;
        }
    }

    private String around(int from, int to) {
        return text.substring(Math.max(0, from - 50), Math.min(text.length(), to + 50)).replace('\n', ' ');
    }

    private int startOf(String ofHeading) {
        Matcher line = Pattern.compile("(?m)^#+ " + Pattern.quote(ofHeading) + "(:.*)?$").matcher(text);
        return line.find() ? line.end() : text.length();
    }

    /** The headings within a section begin sections of their own. */
    private int endOf(String ofHeading) {
        int next = text.indexOf("\n#", startOf(ofHeading));
        return next < 0 ? text.length() : next;
    }
}
