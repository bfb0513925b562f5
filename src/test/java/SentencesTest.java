import java.io.IOException;
import java.nio.file.DirectoryStream;
import java.nio.file.Files;
import java.nio.file.Path;
import java.util.ArrayList;
import java.util.List;
import java.util.Map;
import java.util.TreeMap;
import java.util.regex.Matcher;
import java.util.regex.Pattern;

/**
 * The sentences that the tests of the edges name stand in the document, in the promise that is told with them, and
 * no words of the Terms or of a promise are left that none of them names. Run from the project's folder.
 */
public final class SentencesTest {
    private static final Pattern NAMED = Pattern.compile("Due\\.sentence\\((\\d+), \"([^\"]*)\"\\);");
    private static final int PROMISES = 30;
    /** What is no sentence: headings, fences, numbers of the Terms' parts, a promise's call ahead of its words. */
    private static final Pattern FRAME = Pattern.compile("(?m)^(?:## .*|```.*|==== \\d |`[^`]*\\)`: )");

    private static final Map<Integer, List<String>> SENTENCES = new TreeMap<>();

    public static void main(String[] args) throws IOException {
        int calls = 0;
        int named = 0;
        try (DirectoryStream<Path> tests = Files.newDirectoryStream(Path.of("src/test/java"), "*EdgesTest.java")) {
            for (Path test : tests) {
                String source = Files.readString(test);
                calls += source.split("Due\\.sentence\\(", -1).length - 1;
                Matcher sentence = NAMED.matcher(source);
                while (sentence.find()) {
                    named++;
                    int promise = Integer.parseInt(sentence.group(1));
                    SENTENCES.computeIfAbsent(promise, none -> new ArrayList<>()).add(sentence.group(2));
                }
            }
        }
        Due.holds("sentences are named", named > 100);
        Due.is("each is written so that it is found here", named, calls);
        String document = Files.readString(Path.of("../shared/DOC.md"));
        for (int promise = 0; promise <= PROMISES; promise++) {
            compare(promise, part(document, promise), SENTENCES.getOrDefault(promise, List.of()));
        }
        Due.end();
    }

    private static void compare(int promise, String part, List<String> sentences) {
        StringBuilder left = new StringBuilder(FRAME.matcher(part).replaceAll(frame -> "\n".repeat(frame.group().length())));
        for (String words : sentences) {
            int from = part.indexOf(words);
            Due.holds("promise " + promise + " says " + words, from >= 0);
            for (int i = Math.max(from, 0); i < from + words.length(); i++) {
                left.setCharAt(i, '\n');
            }
        }
        String words = left.toString().replaceAll("[^\\w]*\n[^\\w]*", "\n").strip();
        Due.holds("promise " + promise + " says, and no test names it: " + words, words.isEmpty());
    }

    /** A promise's part of the document, its Terms for 0. */
    private static String part(String document, int promise) {
        int from = document.indexOf(promise == 0 ? "## Terms" : "## Promise " + promise + ":");
        int to = document.indexOf("\n## ", from + 1);
        Due.holds("the document has promise " + promise, from >= 0 && to > from);
        return from >= 0 && to > from ? document.substring(from, to) : "";
    }
}
