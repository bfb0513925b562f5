import java.io.IOException;
import java.lang.reflect.InvocationTargetException;
import java.net.URL;
import java.net.URLClassLoader;
import java.nio.file.Files;
import java.nio.file.Path;
import java.util.ArrayList;
import java.util.List;
import java.util.regex.Matcher;
import java.util.regex.Pattern;
import javax.tools.JavaCompiler;
import javax.tools.ToolProvider;

/**
 * Does the calls of README.md's example, as they stand there, and compares the answers that stand behind them.
 * Run from the project's folder.
 */
public final class ReadmeTest {
    private static final Pattern CALL = Pattern.compile("(\\s*)((?:x|new SameTuesday\\(\\))\\.(\\w+)\\(.*\\));(.*)");
    private static final Pattern ANSWER = Pattern.compile(" *// (-?\\d+|UNKNOWN|OUTSIDE|STATE|FULL|NONE|LOST)(:.*)?");
    /** A call that does not begin its line would be done, but its answer not compared. */
    private static final Pattern HIDDEN = Pattern.compile("[^/]*\\bx\\.\\w+\\(.*");
    private static final String[] SHOWN = {"tuesday", "live", "can", "laws", "others", "odds", "put", "fault"};
    private static final String[] TOLD = {"UNKNOWN", "OUTSIDE", "STATE", "FULL", "NONE", "LOST", "fault()", "-11 .. -14",
        "new SameTuesday()", "JDK 17", "../shared", "\n    .ci/run\n", "\n    .ci/run DayTest\n"};
    private static final String NAME = "ReadmeExample";

    private static int compared = 0;

    public static void main(String[] args) throws IOException, ReflectiveOperationException {
        String readme = Files.readString(Path.of("README.md"));
        List<String> calls = new ArrayList<>();
        run(program(example(readme), calls));
        Due.holds("the example has calls", calls.size() > 30);
        Due.holds("each was done, one of them in a loop", compared >= calls.size());
        for (String name : SHOWN) {
            Due.holds("the example has " + name, calls.contains(name));
        }
        for (String name : FaceTest.names()) {
            Due.holds("README.md lists " + name, readme.contains("`" + name + "("));
        }
        for (String words : TOLD) {
            Due.holds("README.md tells of " + words, readme.contains(words));
        }
        Due.end();
    }

    /** For the example's own class, which another loader brings. */
    public static void due(String call, long got, long want) {
        compared++;
        Due.is("README.md: " + call, got, want);
    }

    private static String example(String readme) {
        String fence = "```java\n";
        int from = readme.indexOf(fence);
        int to = readme.indexOf("\n```", from + 1);
        boolean has = from >= 0 && to > from;
        Due.holds("README.md has an example", has);
        return has ? readme.substring(from + fence.length(), to) : "";
    }

    /** The example as a class; the names of its calls are added to calls. */
    private static String program(String example, List<String> calls) {
        StringBuilder program = new StringBuilder("public final class " + NAME + " {\n");
        program.append("    public static void main(String[] args) {\n");
        for (String line : example.split("\n")) {
            Matcher call = CALL.matcher(line);
            if (call.matches()) {
                calls.add(call.group(3));
                program.append(call.group(1)).append(compared(call.group(2), call.group(4))).append('\n');
            } else {
                Due.holds("README.md: a call begins its line: " + line, !HIDDEN.matcher(line).matches());
                program.append(line).append('\n');
            }
        }
        return program.append("    }\n}\n").toString();
    }

    /** A call that is handed to due(), with the answer that stands behind it. */
    private static String compared(String call, String behind) {
        Matcher answer = ANSWER.matcher(behind);
        boolean has = answer.matches();
        Due.holds("README.md: an answer stands behind " + call, has);
        if (!has) {
            return call + ";";
        }
        String want = answer.group(1);
        String named = Character.isLetter(want.charAt(0)) ? "SameTuesday." + want : want;
        return "ReadmeTest.due(\"" + call.replace("\"", "\\\"") + "\", " + call + ", " + named + ");";
    }

    private static void run(String program) throws IOException, ReflectiveOperationException {
        Path folder = Files.createTempDirectory("readme");
        Path source = folder.resolve(NAME + ".java");
        try {
            Files.writeString(source, program);
            if (compiles(folder, source)) {
                start(folder);
            }
        } finally {
            Files.deleteIfExists(source);
            Files.deleteIfExists(folder.resolve(NAME + ".class"));
            Files.deleteIfExists(folder);
        }
    }

    private static boolean compiles(Path folder, Path source) {
        JavaCompiler javac = ToolProvider.getSystemJavaCompiler();
        Due.holds("there is a compiler", javac != null);
        if (javac == null) {
            return false;
        }
        String path = System.getProperty("java.class.path");
        int exit = javac.run(null, null, null, "-cp", path, "-d", folder.toString(), source.toString());
        Due.is("README.md's example compiles", exit, 0);
        return exit == 0;
    }

    private static void start(Path folder) throws IOException, ReflectiveOperationException {
        URL[] at = {folder.toUri().toURL()};
        try (URLClassLoader loader = new URLClassLoader(at, ReadmeTest.class.getClassLoader())) {
            Class<?> example = loader.loadClass(NAME);
            example.getMethod("main", String[].class).invoke(null, (Object) new String[0]);
        } catch (InvocationTargetException thrown) {
            Due.holds("README.md's example threw " + thrown.getCause(), false);
        }
    }
}
