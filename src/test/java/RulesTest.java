import java.io.IOException;
import java.nio.charset.StandardCharsets;
import java.nio.file.Files;
import java.nio.file.Path;
import java.util.List;
import java.util.regex.Matcher;
import java.util.regex.Pattern;

/** Rules of ../shared/LANGUAGE.md that can be seen in the text of the class. */
public final class RulesTest {
    private static final Path SOURCE = Path.of("src/main/java/WickNights.java");
    private static final String[] NEVER = {
        "\\btry\\b", "\\bcatch\\b", "\\bfinally\\b", "\\bsynchronized\\b", "\\bassert\\b", "\\bprotected\\b",
        "\\bpackage\\b", "->", "::", "\\w+Exact\\b", "\\bdouble\\b", "\\bfloat\\b", "\\bSystem\\.(?!arraycopy)",
        "\\bArrays\\.(?!fill\\b|copyOf\\b|copyOfRange\\b)", "\\bMath\\.(?!min\\b|max\\b|abs\\b)", "\\bstatic\\s*\\{",
        "\"\\s*\\+", "\\+\\s*\"", "\\bimport\\b(?! java\\.util\\.(Arrays|NoSuchElementException);)"};
    private static final int METHOD_LINES = 60;
    private static final int PARAMETERS = 7;

    private static boolean wrong = false;

    private RulesTest() {
    }

    public static void main(String[] args) throws IOException {
        String text = Files.readString(SOURCE, StandardCharsets.US_ASCII);
        String code = text.replaceAll("(?s)/\\*.*?\\*/", "").replaceAll("//[^\n]*", "");
        for (String never : NEVER) {
            Matcher found = Pattern.compile(never).matcher(code);
            if (found.find()) {
                tell("there is a " + found.group());
            }
        }
        methods(text.lines().toList());
        System.out.println(wrong ? "the rules are not kept" : "the rules are kept");
        if (wrong) {
            System.exit(1);
        }
    }

    private static void methods(List<String> lines) {
        Pattern head = Pattern.compile("^( {4}| {8})(public|private) .*\\((.*)\\).*\\{$");
        for (int i = 0; i < lines.size(); i++) {
            Matcher found = head.matcher(lines.get(i));
            if (!found.matches()) {
                continue;
            }
            int end = lines.subList(i, lines.size()).indexOf(found.group(1) + "}");
            if (end < 0 || end > METHOD_LINES) {
                tell("a long method: " + lines.get(i));
            }
            if (found.group(3).split(",").length > PARAMETERS) {
                tell("many parameters: " + lines.get(i));
            }
        }
    }

    private static void tell(String what) {
        wrong = true;
        System.out.println(what);
    }
}
