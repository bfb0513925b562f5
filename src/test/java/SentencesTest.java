import java.io.IOException;
import java.nio.file.DirectoryStream;
import java.nio.file.Files;
import java.nio.file.Path;
import java.util.TreeSet;
import java.util.regex.Matcher;
import java.util.regex.Pattern;

/**
 * The sentences that the tests of the edges name stand in the document, in the promise that is told with them,
 * and each promise has one. Run from the project's folder.
 */
public final class SentencesTest {
    private static final Pattern NAMED = Pattern.compile("Due\\.sentence\\((\\d+), \"([^\"]*)\"\\);");
    private static final int PROMISES = 30;

    public static void main(String[] args) throws IOException {
        TreeSet<Integer> promises = new TreeSet<>();
        int calls = 0;
        int named = 0;
        try (DirectoryStream<Path> tests = Files.newDirectoryStream(Path.of("src/test/java"), "*EdgesTest.java")) {
            for (Path test : tests) {
                String source = Files.readString(test);
                calls += source.split("Due\\.sentence\\(", -1).length - 1;
                Matcher sentence = NAMED.matcher(source);
                while (sentence.find()) {
                    named++;
                    int promise = Integer.parseInt(sentence.group(1));
                    promises.add(promise);
                    stands(test, promise, sentence.group(2));
                }
            }
        }
        Due.holds("sentences are named", named > 100);
        Due.is("each is written so that it is found here", named, calls);
        for (int promise = 0; promise <= PROMISES; promise++) {
            Due.holds("a sentence of promise " + promise + " is named", promises.contains(promise));
        }
        Due.end();
    }

    private static void stands(Path test, int promise, String words) throws IOException {
        String part = part(promise);
        Due.holds(test.getFileName() + ": promise " + promise + " says " + words, part == null || part.contains(words));
    }

    /** A promise's part of the document, its Terms for 0; null, if the document is not here. */
    private static String part(int promise) throws IOException {
        Path path = Path.of("../shared/DOC.md");
        if (!Files.exists(path)) {
            return null;
        }
        String doc = Files.readString(path);
        int from = doc.indexOf(promise == 0 ? "## Terms" : "## Promise " + promise + ":");
        int to = doc.indexOf("\n## ", from + 1);
        return from < 0 || to < 0 ? "" : doc.substring(from, to);
    }
}
