import java.io.IOException;
import java.nio.file.Files;
import java.nio.file.Path;
import java.util.regex.Matcher;
import java.util.regex.Pattern;

/** LANGUAGE.md, as far as words and counts of the source can show it. Run from the project's folder. */
public final class LanguageTest {
    /** Words and signs that the rules leave out, as patterns. */
    private static final String[] LEFT_OUT = {
        "\\bimport\\b", "\\bpackage\\b", "\\bthrow\\b", "\\bthrows\\b", "\\btry\\b", "\\bcatch\\b", "\\bfinally\\b",
        "\\bsynchronized\\b", "\\bassert\\b", "\\bvolatile\\b", "\\bnative\\b", "->", "::", "@", "\\bvar\\b",
        "\\bdouble\\b", "\\bfloat\\b", "\\bprotected\\b", "\\bequals\\b", "\\bhashCode\\b", "\\btoString\\b",
        "\\bObject\\b", "\\bThread\\b", "\\bSystem\\.(?!arraycopy)", "\\bstatic\\s*\\{", "Exact\\b", "\\[\\s*\\]\\s*\\["
    };
    private static final Pattern METHOD =
        Pattern.compile("^( +)(?:(?:public|private|static|final) )*[\\w\\[\\]]+ \\w+\\(([^)]*)\\) \\{$");

    public static void main(String[] args) throws IOException {
        String source = Files.readString(Path.of("src/main/java/SameTuesday.java"));
        String code = source.replaceAll("(?s)/\\*.*?\\*/", "").replaceAll("//[^\n]*", "");
        Due.holds("its signs are 1 to 127", source.chars().allMatch(c -> c > 0 && c < 128));
        for (String pattern : LEFT_OUT) {
            Matcher found = Pattern.compile(pattern).matcher(code);
            Due.holds("the code has no " + pattern, !found.find());
        }
        methods(code.split("\n"));
        Due.end();
    }

    private static void methods(String[] lines) {
        int found = 0;
        for (int i = 0; i < lines.length; i++) {
            Matcher method = METHOD.matcher(lines[i]);
            if (method.matches()) {
                found++;
                int end = i;
                while (end < lines.length && !lines[end].equals(method.group(1) + "}")) {
                    end++;
                }
                String params = method.group(2);
                Due.holds("short: " + lines[i].strip(), end - i < 60);
                Due.holds("few parameters: " + lines[i].strip(), params.isEmpty() || params.split(",").length <= 7);
            }
        }
        Due.holds("methods are found", found > 60);
    }
}
