import java.io.IOException;
import java.nio.file.Files;
import java.nio.file.Path;
import java.util.ArrayList;
import java.util.HashSet;
import java.util.List;
import java.util.Set;
import java.util.regex.Matcher;
import java.util.regex.Pattern;

/** What README.md says of the calls: its example, and its table held against the document. */
public final class ReadmeTest {
    private static final Pattern EXAMPLE =
            Pattern.compile("x\\.(\\w+)\\((.*)\\);\\s+// (throws \\w+|-?\\d+)(:.*)?");
    private static final Pattern TABLE_LINE =
            Pattern.compile("\\| `(\\w+)\\((.*)\\)` \\| (.+) \\|( .*)? \\|");
    private static final Pattern PROMISE =
            Pattern.compile("`(?:int|long) (\\w+)\\((.*)\\)(?: throws \\w+)?`: (.*)");
    private static final Pattern REFUSAL = Pattern.compile("(?<![\\w-])-[1-4](?!\\w)");

    public static void main(String[] args) throws IOException {
        List<String> readme = Files.readAllLines(Path.of("README.md"));
        example(readme);
        table(readme, Files.readAllLines(Path.of("../shared/DOC.md")));
        Check.end("ReadmeTest");
    }

    private static void example(List<String> readme) {
        Check.sentence("README.md: each line is run, one behind the other on one object");
        RowClasses x = new RowClasses();
        Set<String> shown = new HashSet<>();
        for (String line : readme) {
            if (line.startsWith("x.")) {
                Matcher parts = EXAMPLE.matcher(line);
                Check.holds(line + " is a call and its answer", parts.matches());
                if (parts.matches()) {
                    shown.add(parts.group(1));
                    Check.same(line, answer(x, parts.group(1), parts.group(2)), parts.group(3));
                }
            }
        }
        for (Call call : Call.ALL) {
            Check.holds("the example shows " + call.name, shown.contains(call.name));
        }
    }

    private static String answer(RowClasses x, String name, String arguments) {
        Call call = Call.named(name);
        String[] texts = arguments.isEmpty() ? new String[0] : arguments.split(", ");
        int[] numbers = new int[texts.length];
        for (int i = 0; i < texts.length; i++) {
            numbers[i] = call.roles.get(i) == Call.Role.FLAG
                    ? (Boolean.parseBoolean(texts[i]) ? 1 : 0) : Integer.parseInt(texts[i]);
        }
        long answer = call.answer(x, numbers);
        return answer == Model.THROWS ? "throws ArithmeticException" : String.valueOf(answer);
    }

    private static void table(List<String> readme, List<String> document) {
        Check.sentence("README.md: each call, with the document's refusals in their order");
        List<String> said = new ArrayList<>();
        for (String line : readme) {
            Matcher parts = TABLE_LINE.matcher(line);
            if (parts.matches()) {
                String refusals = parts.group(4) == null ? "" : parts.group(4);
                said.add(parts.group(1) + "(" + parts.group(2) + ")" + refusalsIn(refusals));
            }
        }
        List<String> due = new ArrayList<>();
        for (String line : document) {
            Matcher parts = PROMISE.matcher(line);
            if (parts.matches()) {
                due.add(parts.group(1) + "(" + parts.group(2).replaceAll("(int|boolean) ", "") + ")"
                        + refusalsIn(parts.group(3)));
            }
        }
        Check.due("calls of the document", due.size(), Call.ALL.size());
        Check.same("the table", said.toString(), due.toString());
    }

    private static List<String> refusalsIn(String text) {
        List<String> found = new ArrayList<>();
        Matcher refusal = REFUSAL.matcher(text);
        while (refusal.find()) {
            found.add(refusal.group());
        }
        if (text.contains("ArithmeticException")) {
            found.add(0, "ArithmeticException");
        }
        return found;
    }
}
