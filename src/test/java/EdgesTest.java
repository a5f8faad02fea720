import java.util.ArrayList;
import java.util.List;
import java.util.TreeSet;

/**
 * Every call with every choice of edge numbers as its arguments: the least and the greatest int, and
 * for each bound the numbers on it, just below and just above; with every number of STEPS, and with
 * an empty ROW, one with a single STEP, one with a STEP too few and a WHOLE one. The answer is what
 * the document says (so of two or more refusals the one that is named first), and behind a call all
 * is as it was, but for what the call is for.
 */
public final class EdgesTest {
    private static final int LEAST = Integer.MIN_VALUE;
    private static final int GREATEST = Integer.MAX_VALUE;

    public static void main(String[] args) {
        for (int n = 1; n <= 12; n++) {
            for (List<Integer> row : rowsOf(n)) {
                for (Call call : Call.ALL) {
                    Check.sentence("the edges of " + call.name);
                    everyChoice(call, n, row, new int[call.roles.size()], 0);
                }
            }
        }
        Check.end("EdgesTest");
    }

    /** No FORM of the WHOLE one begins or ends as its neighbours do, but where n is too small. */
    private static List<List<Integer>> rowsOf(int n) {
        List<Integer> whole = new ArrayList<>();
        for (int i = 0; i < n; i++) {
            whole.add((i % 2 == 0 ? n - 1 - i / 2 : i / 2) % n);
        }
        List<List<Integer>> result = new ArrayList<>();
        for (int length : new TreeSet<>(List.of(0, 1, n - 1, n))) {
            result.add(whole.subList(0, length));
        }
        return result;
    }

    private static void everyChoice(Call call, int n, List<Integer> row, int[] chosen, int place) {
        if (place == chosen.length) {
            look(call, n, row, chosen);
            return;
        }
        for (int number : edges(call.roles.get(place), n)) {
            chosen[place] = number;
            everyChoice(call, n, row, chosen, place + 1);
        }
    }

    private static void look(Call call, int n, List<Integer> row, int[] arguments) {
        RowClasses x = Check.circle(n);
        Model model = new Model();
        model.steps(n);
        for (int step : row) {
            x.add(step);
            model.add(step);
        }
        String text = n + " steps, row " + row + ": " + call.text(arguments);
        Check.due(text, call.answer(x, arguments), call.due(model, arguments));
        Check.same(text + ", the state behind it", Check.state(x), model.state());
    }

    private static TreeSet<Integer> edges(Call.Role role, int n) {
        switch (role) {
            case STEPS:
                return with(-13, -12, -1, 0, 1, 2, n - 1, n, n + 1, 11, 12, 13, 24);
            case SET:
                return with(-Check.all(n) - 1, -1, 0, 1, 2, 5 & Check.all(n), 1 << (n - 1),
                        Check.all(n) - 1, Check.all(n), 1 << n, (1 << n) + 1);
            case KIND:
                return with(-1, 0, 1, 2, 3);
            case FORM:
                return with(-1, 0, 1, 2, 3, 4);
            case RULE:
                return with(-1, 0, 1, 2);
            case SIZE:
                return with(-1, 0, 1, 2, n - 1, n, n + 1);
            case PLACE:
                return with(-n, -1, 0, 1, 2, n / 2 - 1, n / 2, n - 2, n - 1, n, n + 1);
            case APART:
                return with(-1, 0, 1, 2, n / 2 - 1, n / 2, n / 2 + 1, n - 1, n);
            case STEP:
                return with(-n, -1, 0, 1, n / 2, n - 1, n, n + 1);
            case LENGTH:
                return with(-n, -1, 0, 1, 2, 3, n / 2, n - 1, n, n + 1, 2 * n);
            case BEADS:
                return with(-1, 0, 1, 2, 3, 23, 24, 25);
            case COLOURS:
                return with(-1, 0, 1, 2, 5, 6, 7);
            default:
                return new TreeSet<>(List.of(0, 1));
        }
    }

    private static TreeSet<Integer> with(int... numbers) {
        TreeSet<Integer> result = new TreeSet<>(List.of(LEAST, LEAST + 1, GREATEST - 1, GREATEST));
        for (int number : numbers) {
            result.add(number);
        }
        return result;
    }
}
