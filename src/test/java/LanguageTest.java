import java.io.IOException;
import java.nio.file.Files;
import java.nio.file.Path;
import java.util.List;
import java.util.regex.Matcher;
import java.util.regex.Pattern;

/**
 * Some rules of ../shared/LANGUAGE.md that can be seen in the text of the class. It is run in the project's folder.
 * The class needs no exception and no library, so it is held to have none.
 */
public final class LanguageTest {
    private static final Path SOURCE = Path.of("src/main/java/SnakeTrades.java");
    private static final List<String> RULED_OUT = List.of("package", "import", "try", "catch", "throw", "throws",
        "finally", "synchronized", "assert", "volatile", "native", "strictfp", "protected", "Object", "System",
        "Thread", "Math", "Random", "equals", "hashCode", "toString");
    private static final int MOST_LINES_OF_A_METHOD = 60;
    private static final int MOST_CLASSES = 12;
    private static final int MOST_PARAMETERS = 7;

    private LanguageTest() {
    }

    public static void main(String[] arguments) throws IOException {
        String source = Files.readString(SOURCE);
        String code = source.replaceAll("(?s)/\\*.*?\\*/", "").replaceAll("//[^\n]*", "");
        for (String word : RULED_OUT) {
            Checks.holds("there is no " + word, !Pattern.compile("\\b" + word + "\\b").matcher(code).find());
        }
        Checks.holds("there is no lambda and no method reference", !code.contains("->") && !code.contains("::"));
        Checks.holds("signs are 1 to 127", source.chars().allMatch(sign -> sign > 0 && sign < 128));
        Checks.holds("no static block", !Pattern.compile("static\\s*\\{").matcher(code).find());
        checkSizes(source, code);
        checkThatOnlyConstructorsMake(code);
        Checks.end("LanguageTest");
    }

    private static void checkSizes(String source, String code) {
        long classes = Pattern.compile("\\bclass \\w+").matcher(code).results().count();
        Checks.holds("classes: " + classes, classes <= MOST_CLASSES);
        Matcher head = Pattern.compile("(?m)^( +)[\\w\\[\\] ]+\\(([^()]*)\\) \\{$").matcher(source);
        int methods = 0;
        while (head.find()) {
            methods++;
            int end = source.indexOf("\n" + head.group(1) + "}", head.end());
            long lines = source.substring(head.start(), end).lines().count();
            Checks.holds(head.group().trim() + " is short: " + lines, lines <= MOST_LINES_OF_A_METHOD);
            Checks.holds(head.group().trim() + " has few parameters",
                head.group(2).split(",").length <= MOST_PARAMETERS);
        }
        Checks.holds("methods are found: " + methods, methods > 50);
    }

    /** All calls of a run share one room: so what an object needs is made with it, and by no call. */
    private static void checkThatOnlyConstructorsMake(String code) {
        Matcher head = Pattern.compile("(?m)^( {4}| {8})(?!return|new)[\\w\\[\\] ]+ \\w+\\([^()]*\\) \\{$").matcher(code);
        int methods = 0;
        while (head.find()) {
            boolean isConstructor = Pattern.matches("(public |private )?[A-Z]\\w*\\(.*", head.group().trim());
            String body = code.substring(head.start(), code.indexOf("\n" + head.group(1) + "}", head.end()));
            methods += isConstructor ? 0 : 1;
            Checks.holds(head.group().trim() + " makes nothing",
                isConstructor || !Pattern.compile("\\bnew\\b|\\.clone\\(").matcher(body).find());
        }
        Checks.holds("methods are found: " + methods, methods > 50);
    }
}
