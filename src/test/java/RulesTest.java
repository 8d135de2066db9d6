import java.io.IOException;
import java.nio.file.Files;
import java.nio.file.Path;
import java.util.regex.Matcher;
import java.util.regex.Pattern;

/** The rules of LANGUAGE.md that can be told from the source's text. */
public final class RulesTest {
    private static final String[] FORBIDDEN = {
        "^package ", "^import ", "->", "::", "\\bcatch\\b", "\\bfinally\\b", "\\bsynchronized\\b", "\\bassert\\b",
        "\\binstanceof\\b", "\\bprotected\\b", "\\bnative\\b", "\\bgoto\\b", "\\bvar\\b", "\\bThread\\b",
        "\\bSystem\\.(?!arraycopy\\b)", "Exact\\b", "\\.hashCode\\(", "\\.getMessage\\(", "\\bstatic \\{",
        "\\bstatic (?!final |boolean |int |long |void )", "\" \\+", "\\+ \"", "[^\\x00-\\x7F]", "\\t"};

    public static void main(String[] args) throws IOException {
        Check check = new Check();
        check.at("rules");
        String source = Files.readString(Path.of("src/main/java/EchoGauge.java"));
        String code = source.replaceAll("(?s)/\\*.*?\\*/", "").replaceAll("//[^\n]*", "");
        for (String pattern : FORBIDDEN) {
            Matcher found = Pattern.compile(pattern, Pattern.MULTILINE).matcher(code);
            check.due("the source has " + pattern, found.find(), false);
        }
        check.due("public classes", count(code, "public (final )?class "), 1);
        check.due("public members", count(code, "\n    public "), 33);
        check.due("things made in methods", count(code, "^            .*\\bnew (?!\\w+Exception\\()"), 1);
        check.due("classes, of at most twelve", count(code, "\\b(class|enum|interface|record) \\w+ \\{") <= 12, true);
        int longest = longestMethod(code);
        check.due("longest method, of at most sixty lines", longest > 0 && longest <= 60, true);
        check.due("methods of more than seven parameters",
            count(code, "^ {4,8}[^;=\\n]*\\w\\((?:[^,()]*,){7,}[^,()]*\\)[^;]*\\{"), 0);
        check.due("other methods with the name of a public one", sameNames(code), 0);
        check.end();
    }

    /** Lines between a method's first and last brace, told by their indents of four and eight. */
    private static int longestMethod(String code) {
        Matcher methods = Pattern.compile("^( {4}| {8})\\S[^;=\\n]*\\([^;\\n]*\\{\\n(.*?)\\n\\1}",
            Pattern.MULTILINE | Pattern.DOTALL).matcher(code);
        int longest = 0;
        while (methods.find()) {
            longest = Math.max(longest, (int) methods.group(2).lines().count());
        }
        return longest;
    }

    private static int sameNames(String code) {
        Matcher open = Pattern.compile("\n    public \\w+ (\\w+)\\(").matcher(code);
        int found = 0;
        while (open.find()) {
            String declared = "^ +(?!public |return |new )(?:private |static |final )*\\w+ " + open.group(1) + "\\(";
            found += count(code, declared);
        }
        return found;
    }

    private static int count(String code, String pattern) {
        Matcher matcher = Pattern.compile(pattern, Pattern.MULTILINE).matcher(code);
        int found = 0;
        while (matcher.find()) {
            found++;
        }
        return found;
    }
}
