import java.io.IOException;
import java.lang.reflect.Constructor;
import java.lang.reflect.Field;
import java.lang.reflect.Method;
import java.lang.reflect.Modifier;
import java.nio.file.Files;
import java.nio.file.Path;
import java.util.Arrays;
import java.util.Set;
import java.util.TreeSet;

/** The document's public face, and the rules of LANGUAGE.md that a test can see. */
public final class FaceTest {
    private static final String[] FACE = {
        "int steps(int)", "int least(int, int)", "int size(int, int)", "int classes(int, int)",
        "int nth(int, int, int)", "int normal(int, int, int)", "int prime(int, int, int)",
        "int differ(int)", "int vector(int, int)", "int twin(int)", "int others(int)",
        "int multiplied(int, int)", "int within(int, int, int)", "int common(int, int, int, boolean)",
        "int best(int, int, boolean)", "int keeps(int, boolean)", "int even(int)",
        "int spread(int, int)", "int generator(int)", "int add(int)", "int clear()",
        "int form(int, int, int)", "int forms()", "int table(int, int)", "int unlike()",
        "int rows()", "int fills(int, int)", "int derived(int, int)", "int kept(int, int, int)",
        "long rounds(int, int, boolean)",
    };
    /** Words and signs of what the rules leave out. */
    private static final String[] LEFT_OUT = {
        "->", "::", "import ", "package ", "catch", "finally", "synchronized", "assert", "protected",
        "static {", "System.", "Exact(", "double", "float", "volatile", "native",
    };

    public static void main(String[] args) throws IOException {
        face();
        nested();
        String text = Files.readString(Path.of("src/main/java/RowClasses.java"));
        source(text.replaceAll("(?s)/\\*.*?\\*/", "").replaceAll("//.*", ""));
        Check.end("FaceTest");
    }

    private static void face() {
        Class<?> c = RowClasses.class;
        Check.holds("the class is public and final",
                Modifier.isPublic(c.getModifiers()) && Modifier.isFinal(c.getModifiers()));
        Set<String> seen = new TreeSet<>();
        for (Method method : c.getDeclaredMethods()) {
            if (!Modifier.isPrivate(method.getModifiers())) {
                Check.holds(method + " is public and no more",
                        method.getModifiers() == Modifier.PUBLIC);
                seen.add(text(method));
            }
        }
        Set<String> due = new TreeSet<>(Arrays.asList(FACE));
        Check.holds("the face is " + seen + ", due is " + due, seen.equals(due));
        for (Field field : c.getDeclaredFields()) {
            Check.holds(field + " is private and final", Modifier.isPrivate(field.getModifiers())
                    && Modifier.isFinal(field.getModifiers()));
        }
        Constructor<?>[] made = c.getDeclaredConstructors();
        Check.holds("one public constructor without parameters", made.length == 1
                && Modifier.isPublic(made[0].getModifiers()) && made[0].getParameterCount() == 0);
    }

    private static String text(Method method) {
        StringBuilder result = new StringBuilder();
        result.append(method.getReturnType()).append(' ').append(method.getName()).append('(');
        for (Class<?> one : method.getParameterTypes()) {
            result.append(result.charAt(result.length() - 1) == '(' ? "" : ", ").append(one);
        }
        return result.append(')').toString();
    }

    private static void nested() {
        Set<String> names = new TreeSet<>();
        for (Method method : RowClasses.class.getDeclaredMethods()) {
            if (Modifier.isPublic(method.getModifiers())) {
                names.add(method.getName());
            }
        }
        for (Method method : RowClasses.class.getDeclaredMethods()) {
            Check.holds(method + " bears a public one's name",
                    Modifier.isPublic(method.getModifiers()) || !names.contains(method.getName()));
        }
        for (Class<?> inside : RowClasses.class.getDeclaredClasses()) {
            Check.holds(inside + " is static and private",
                    Modifier.isStatic(inside.getModifiers())
                            && Modifier.isPrivate(inside.getModifiers()));
            for (Method method : inside.getDeclaredMethods()) {
                Check.holds(method + " bears a public one's name",
                        !names.contains(method.getName()));
                Check.holds(method + " has more than seven parameters",
                        method.getParameterCount() <= 7);
            }
        }
    }

    private static void source(String text) {
        for (String word : LEFT_OUT) {
            Check.holds("the source has '" + word + "'", !text.contains(word));
        }
        Check.holds("one throw, that of steps(0)",
                text.split("throw new ", -1).length == 2
                        && text.contains("throw new ArithmeticException("));
        // Every array is made in a constructor, so that no call takes room.
        Check.holds("three arrays are made", text.split("new int\\[", -1).length == 4);
    }
}
