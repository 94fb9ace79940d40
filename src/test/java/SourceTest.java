import java.io.IOException;
import java.nio.file.Files;
import java.nio.file.Path;
import java.util.regex.Matcher;
import java.util.regex.Pattern;

/** Rules of LANGUAGE.md that the class's text shows; it is read from the project's directory. */
final class SourceTest {
    private static final String[] NEVER = {
        "package", "catch", "try", "finally", "assert", "synchronized", "native", "transient", "volatile",
        "protected", "double", "float", "extends", "implements", "instanceof", "null",
    };
    private static final String[] NEVER_WRITTEN = {
        "->", "::", "Exact(", "static {", "[][]", "@",
    };

    private SourceTest() {
    }

    public static void main(String[] args) throws IOException {
        String text = withoutComments(Files.readString(Path.of("src/main/java/LampChoice.java")));
        for (String word : NEVER) {
            Check.due("the word " + word, count(text, "\\b" + word + "\\b"), 0);
        }
        for (String sign : NEVER_WRITTEN) {
            Check.due("the sign " + sign, count(text, Pattern.quote(sign)), 0);
        }
        Check.due("imports", count(text, "\\bimport\\b"), count(text, "import java\\.util\\.Arrays;"));
        Check.due("throws by a written text", count(text, "\\bthrow\\b"),
                count(text, "throw new Illegal(Argument|State)Exception\\(\"[^\"]*\"\\);"));
        Check.due("divisions behind a test of the divisor", count(text, " [/%]=? "),
                count(text, "below > 0 \\? above / below") + count(text, "&& b > 0; round\\+\\+\\) \\{\\s+long rest = a % b"));
        Check.due("arrays are made in fields alone", count(text, "\\bnew \\w+\\["),
                count(text, "final (int|long)\\[\\] \\w+ = new (int|long)\\["));
        Check.due("fields that are static and not final", count(text, "\\bstatic (?!final)\\w+ \\w+ ?[=;]"), 0);
        shortMethods(text);
        Check.end("SourceTest");
    }

    /** "Methods stay short (some sixty lines)": from the line that opens one to the one that closes it as deep. */
    private static void shortMethods(String text) {
        Matcher method = Pattern.compile("(?ms)^( {4}| {8})(?=\\S)(?!.{0,60}\\bclass\\b)[^;{}]*\\{\n.*?^\\1\\}\n").matcher(text);
        int found = 0;
        while (method.find()) {
            found++;
            long lines = method.group().lines().count();
            Check.dueText("lines of " + method.group().lines().findFirst().orElse("") + " " + lines,
                    "" + (lines <= 60), "true");
        }
        Check.dueText("methods found: " + found, "" + (found >= 21), "true");
    }

    private static String withoutComments(String text) {
        return text.replaceAll("(?s)/\\*.*?\\*/", "").replaceAll("//[^\n]*", "");
    }

    private static int count(String text, String pattern) {
        Matcher matcher = Pattern.compile(pattern).matcher(text);
        int found = 0;
        while (matcher.find()) {
            found++;
        }
        return found;
    }
}
