import java.io.IOException;
import java.lang.reflect.Constructor;
import java.lang.reflect.Field;
import java.lang.reflect.Method;
import java.lang.reflect.Modifier;
import java.nio.file.Files;
import java.nio.file.Path;
import java.util.Set;
import java.util.TreeSet;
import java.util.regex.Matcher;
import java.util.regex.Pattern;

/**
 * The public face: just the constants, the constructor and the methods of the document. Run from the project's
 * folder.
 */
public final class FaceTest {
    private static final String[] METHODS = {
        "int tuesday(int,int,int,int)", "int ofHappening(int,int)", "int ofDeed(int,int)", "int minutes(int)",
        "int shift(int,int)", "int live(int,int,int,int,int)", "int at(int,int,int,int,int)",
        "int hangs(int,int,int,int)", "int can(int,int)", "int soonest(int)", "int bar(int)", "int day(int)",
        "int forget(int)", "int laws(int)", "int fewest()", "int next(int)", "int others(int,int,int,int,int,int)",
        "long odds(int,int,int,int,int,int)", "int sheet(int,int,int)", "int lose(int)", "int put(int,int,int)",
        "long cell(int,int,int)", "int copy(int,int,int,int,int)", "int tell(int)", "int rhyme(int)",
        "int as(int,int)", "int trace()", "int fault()", "int many(int)"
    };
    private static final Set<String> CONSTANTS = Set.of("UNKNOWN", "OUTSIDE", "STATE", "FULL", "NONE", "LOST");

    public static void main(String[] args) throws IOException {
        document();
        constants();
        methods();
        fields();
        classes();
        Due.end();
    }

    /** What stands here as the face stands in the document. */
    private static void document() throws IOException {
        String document = Files.readString(Path.of("../shared/DOC.md"));
        String face = document.substring(document.indexOf("```java"), document.indexOf("## Terms"));
        Matcher call = Pattern.compile("public (int|long) (\\w+)\\((.*)\\);").matcher(face);
        Set<String> found = new TreeSet<>();
        while (call.find()) {
            String types = call.group(3).replaceAll("int \\w+", "int").replace(" ", "");
            found.add(call.group(1) + " " + call.group(2) + "(" + types + ")");
        }
        Due.holds("the document's calls: " + found, found.equals(Set.of(METHODS)));
        Due.holds("its constants", face.contains("int UNKNOWN = -1, OUTSIDE = -2, STATE = -3, FULL = -4, NONE = -9;")
            && face.contains("long LOST = Long.MIN_VALUE;"));
    }

    private static void constants() {
        Due.is("UNKNOWN", SameTuesday.UNKNOWN, -1);
        Due.is("OUTSIDE", SameTuesday.OUTSIDE, -2);
        Due.is("STATE", SameTuesday.STATE, -3);
        Due.is("FULL", SameTuesday.FULL, -4);
        Due.is("NONE", SameTuesday.NONE, -9);
        Due.is("LOST", SameTuesday.LOST, Long.MIN_VALUE);
    }

    /** The names of the document's calls. */
    static Set<String> names() {
        Set<String> names = new TreeSet<>();
        for (String method : METHODS) {
            names.add(method.substring(method.indexOf(' ') + 1, method.indexOf('(')));
        }
        return names;
    }

    private static String told(Method method) {
        StringBuilder told = new StringBuilder(method.getReturnType() + " " + method.getName() + "(");
        for (Class<?> type : method.getParameterTypes()) {
            told.append(told.charAt(told.length() - 1) == '(' ? "" : ",").append(type);
        }
        return told.append(')').toString();
    }

    private static void methods() {
        Set<String> due = new TreeSet<>(Set.of(METHODS));
        Set<String> names = new TreeSet<>();
        Set<String> found = new TreeSet<>();
        for (Method method : SameTuesday.class.getDeclaredMethods()) {
            if (Modifier.isPublic(method.getModifiers())) {
                found.add(told(method));
                names.add(method.getName());
                Due.holds(told(method) + " is of objects", !Modifier.isStatic(method.getModifiers()));
            }
        }
        Due.holds("the methods are those of the document: " + found, found.equals(due));
        for (Method method : SameTuesday.class.getDeclaredMethods()) {
            if (!Modifier.isPublic(method.getModifiers()) && !method.isSynthetic()) {
                Due.holds(told(method) + " is private", Modifier.isPrivate(method.getModifiers()));
                Due.holds(told(method) + " bears no public name", !names.contains(method.getName()));
            }
        }
        Constructor<?>[] made = SameTuesday.class.getDeclaredConstructors();
        Due.is("constructors", made.length, 1);
        Due.holds("it is public", Modifier.isPublic(made[0].getModifiers()));
        Due.is("its parameters", made[0].getParameterCount(), 0);
    }

    private static void fields() {
        for (Field field : SameTuesday.class.getDeclaredFields()) {
            int is = field.getModifiers();
            boolean told = CONSTANTS.contains(field.getName());
            Due.holds(field + " is public, if the document tells it", Modifier.isPublic(is) == told);
            Due.holds(field + " is private, else", Modifier.isPrivate(is) == !told);
            Due.holds(field + " is final, if static", !Modifier.isStatic(is) || Modifier.isFinal(is));
        }
    }

    private static void classes() {
        Due.holds("the class is final", Modifier.isFinal(SameTuesday.class.getModifiers()));
        Due.holds("it is of no package", SameTuesday.class.getPackageName().isEmpty());
        Class<?>[] inside = SameTuesday.class.getDeclaredClasses();
        Due.holds("at most twelve classes", inside.length <= 11);
        for (Class<?> one : inside) {
            Due.holds(one + " is static", Modifier.isStatic(one.getModifiers()));
            Due.holds(one + " is not public", !Modifier.isPublic(one.getModifiers()));
            for (Field field : one.getDeclaredFields()) {
                int is = field.getModifiers();
                Due.holds(field + " is final, if static", !Modifier.isStatic(is) || Modifier.isFinal(is));
            }
        }
    }
}
