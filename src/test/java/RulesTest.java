import java.io.IOException;
import java.nio.file.Files;
import java.nio.file.Path;
import java.util.regex.Matcher;
import java.util.regex.Pattern;

/** The rules of LANGUAGE.md that can be told from the source's text. */
public final class RulesTest {
    private static final String[] FORBIDDEN = {
        "^package ", "^import ", "->", "::", "\\bcatch\\b", "\\bfinally\\b", "\\bsynchronized\\b", "\\bassert\\b",
        "\\binstanceof\\b", "\\bprotected\\b", "\\bnative\\b", "\\bgoto\\b", "\\bvar\\b", "\\bThread\\b",
        "\\bSystem\\.(?!arraycopy\\b)", "Exact\\b", "\\.hashCode\\(", "\\.getMessage\\(", "\\bstatic \\{",
        "\\bstatic (?!final |boolean |int |long |void )", "\" \\+", "\\+ \"", "[^\\x00-\\x7F]", "\\t"};

    public static void main(String[] args) throws IOException {
        Check check = new Check();
        check.at("rules");
        String source = Files.readString(Path.of("src/main/java/EchoGauge.java"));
        String code = source.replaceAll("(?s)/\\*.*?\\*/", "").replaceAll("//[^\n]*", "");
        for (String pattern : FORBIDDEN) {
            Matcher found = Pattern.compile(pattern, Pattern.MULTILINE).matcher(code);
            check.due("the source has " + pattern, found.find(), false);
        }
        check.due("public classes", count(code, "public (final )?class "), 1);
        check.due("public members", count(code, "\n    public "), 33);
        check.due("things made in methods", count(code, "^            .*\\bnew (?!\\w+Exception\\()"), 1);
        check.due("classes, of at most twelve", count(code, "\\b(class|enum|interface|record) \\w+ \\{") <= 12, true);
        check.end();
    }

    private static int count(String code, String pattern) {
        Matcher matcher = Pattern.compile(pattern, Pattern.MULTILINE).matcher(code);
        int found = 0;
        while (matcher.find()) {
            found++;
        }
        return found;
    }
}
