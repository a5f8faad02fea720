import java.io.IOException;
import java.lang.reflect.Constructor;
import java.lang.reflect.Field;
import java.lang.reflect.Method;
import java.lang.reflect.Modifier;
import java.nio.file.Files;
import java.nio.file.Path;
import java.util.Arrays;
import java.util.Set;
import java.util.TreeSet;
import java.util.regex.Matcher;
import java.util.regex.Pattern;

/** The document's public face, and the rules of LANGUAGE.md that a test can see. */
public final class FaceTest {
    private static final String[] FACE = {
        "int steps(int)", "int least(int, int)", "int size(int, int)", "int classes(int, int)",
        "int nth(int, int, int)", "int normal(int, int, int)", "int prime(int, int, int)",
        "int differ(int)", "int vector(int, int)", "int twin(int)", "int others(int)",
        "int multiplied(int, int)", "int within(int, int, int)", "int common(int, int, int, boolean)",
        "int best(int, int, boolean)", "int keeps(int, boolean)", "int even(int)",
        "int spread(int, int)", "int generator(int)", "int add(int)", "int clear()",
        "int form(int, int, int)", "int forms()", "int table(int, int)", "int unlike()",
        "int rows()", "int fills(int, int)", "int derived(int, int)", "int kept(int, int, int)",
        "long rounds(int, int, boolean)",
    };
    /** Words and signs of what the rules leave out, by the number of the rule. */
    private static final String[][] LEFT_OUT = {
        {"2", "::"}, {"4", "Exact("}, {"5", "static {"}, {"6", "finally"}, {"6", "getMessage"},
        {"6", "synchronized"}, {"6", "assert "}, {"6", "extends RuntimeException"},
        {"6", "extends Exception"}, {"13", "currentTimeMillis"}, {"13", "nanoTime"},
        {"13", "Random"}, {"13", "Thread"}, {"13", "java.io"}, {"13", "java.nio"},
        {"13", "java.net"}, {"13", "getenv"},
    };
    /** Caught by name or by a class above, the machine's own exceptions would be an answer. */
    private static final String[] NEVER_CAUGHT = {
        "ArrayIndexOutOfBoundsException", "NullPointerException", "ClassCastException",
        "NegativeArraySizeException", "ArrayStoreException", "Throwable", "Exception", "Error",
    };
    private static final int MOST_PARAMETERS = 7;
    private static final int MOST_CLASSES = 12;
    private static final int MOST_FIELDS = 20;

    public static void main(String[] args) throws IOException {
        members();
        constructor();
        nested();
        String text = Files.readString(Path.of("src/main/java/RowClasses.java"));
        source(withoutComments(text));
        headings(text, Files.readString(Path.of("../shared/DOC.md")));
        Check.end("FaceTest");
    }

    private static String withoutComments(String text) {
        return text.replaceAll("(?s)/\\*.*?\\*/", "").replaceAll("//.*", "");
    }

    private static void members() {
        Check.sentence("the class of the document, public and final, with its methods, no other");
        Class<?> c = RowClasses.class;
        Check.holds("the class is public and final",
                Modifier.isPublic(c.getModifiers()) && Modifier.isFinal(c.getModifiers()));
        Set<String> seen = new TreeSet<>();
        for (Method method : c.getDeclaredMethods()) {
            if (!Modifier.isPrivate(method.getModifiers()) && !method.isSynthetic()) {
                Check.holds(method + " is public, and not static",
                        method.getModifiers() == Modifier.PUBLIC);
                seen.add(text(method));
                thrown(method);
            }
        }
        Set<String> due = new TreeSet<>(Arrays.asList(FACE));
        Check.holds("the face is " + seen + ", due is " + due, seen.equals(due));
        for (Field field : c.getDeclaredFields()) {
            int modifiers = field.getModifiers();
            Check.holds(field + " is private", Modifier.isPrivate(modifiers));
            Check.holds(field + " is final if it is static",
                    !Modifier.isStatic(modifiers) || Modifier.isFinal(modifiers));
        }
    }

    private static void thrown(Method method) {
        String due = method.getName().equals("steps") ? "[class java.lang.ArithmeticException]" : "[]";
        Check.same("what " + method.getName() + " says that it throws",
                Arrays.toString(method.getExceptionTypes()), due);
    }

    private static void constructor() {
        Check.sentence("public RowClasses()");
        Constructor<?>[] made = RowClasses.class.getDeclaredConstructors();
        Check.holds("one public constructor without parameters", made.length == 1
                && Modifier.isPublic(made[0].getModifiers()) && made[0].getParameterCount() == 0);
    }

    private static String text(Method method) {
        StringBuilder result = new StringBuilder();
        result.append(method.getReturnType()).append(' ').append(method.getName()).append('(');
        for (Class<?> one : method.getParameterTypes()) {
            result.append(result.charAt(result.length() - 1) == '(' ? "" : ", ").append(one);
        }
        return result.append(')').toString();
    }

    private static void nested() {
        Check.sentence("the classes inside are private or package-visible and static");
        for (Class<?> inside : RowClasses.class.getDeclaredClasses()) {
            int modifiers = inside.getModifiers();
            Check.holds(inside + " is static", Modifier.isStatic(modifiers));
            Check.holds(inside + " is neither public nor protected",
                    !Modifier.isPublic(modifiers) && !Modifier.isProtected(modifiers));
            methods(inside);
            fields(inside);
        }
        methods(RowClasses.class);
        fields(RowClasses.class);
        Check.sentence("rule 11: some twelve classes");
        Check.holds("too many classes",
                RowClasses.class.getDeclaredClasses().length < MOST_CLASSES);
    }

    private static void fields(Class<?> of) {
        Check.sentence("rule 11: some twenty fields beside its constants");
        int fields = 0;
        for (Field field : of.getDeclaredFields()) {
            fields += Modifier.isStatic(field.getModifiers()) ? 0 : 1;
        }
        Check.holds(of + " has too many fields", fields <= MOST_FIELDS);
    }

    private static void methods(Class<?> of) {
        Set<String> names = new TreeSet<>();
        for (String one : FACE) {
            names.add(one.substring(one.indexOf(' ') + 1, one.indexOf('(')));
        }
        for (Method method : of.getDeclaredMethods()) {
            Check.holds(method + " is private and bears a public one's name",
                    !Modifier.isPrivate(method.getModifiers())
                            || !names.contains(method.getName()));
            Check.holds(method + " has more than seven parameters",
                    method.getParameterCount() <= MOST_PARAMETERS);
        }
    }

    private static void source(String text) {
        for (String[] rule : LEFT_OUT) {
            Check.sentence("rule " + rule[0]);
            Check.holds("the source has '" + rule[1] + "'", !text.contains(rule[1]));
        }
        Check.sentence("no package line, no library but what is listed");
        Check.holds("a package", !Pattern.compile("(?m)^\\s*package ").matcher(text).find());
        Matcher imported = Pattern.compile("import\\s+([^;]*);").matcher(text);
        while (imported.find()) {
            Check.holds("import " + imported.group(1), imported.group(1).startsWith("java.util."));
        }
        Check.sentence("rule 6: what the machine throws is not caught");
        Matcher caught = Pattern.compile("catch\\s*\\(([^)]*)\\)").matcher(text);
        while (caught.find()) {
            for (String name : caught.group(1).split("[\\s|]+")) {
                Check.holds("catch (" + name + ")", !Arrays.asList(NEVER_CAUGHT).contains(name));
            }
        }
    }

    /** The calls stand in the document's order, each behind the heading that it names for it. */
    private static void headings(String text, String document) {
        Check.sentence("Ahead of the calls .. the interface says: ---- ..");
        Matcher ahead = Pattern.compile("Ahead of the calls (.*) the interface says: (---- .*)\\.")
                .matcher(document);
        int from = text.indexOf("public int steps(");
        int found = 0;
        while (ahead.find()) {
            found++;
            from = behind(text, "    // " + ahead.group(2) + "\n", from);
            for (String name : ahead.group(1).replace("`", "").split(", ")) {
                String type = name.equals("rounds") ? "long " : "int ";
                from = behind(text, "    public " + type + name + "(", from);
            }
        }
        Check.due("headings", found, 5);
    }

    /** Where the words stand behind a place of the text; the place itself if they do not. */
    private static int behind(String text, String words, int from) {
        int at = text.indexOf(words, from);
        Check.holds("'" + words.strip() + "' does not stand where it is due", at >= 0);
        return Math.max(at, from);
    }
}
