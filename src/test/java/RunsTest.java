import java.util.Random;

/**
 * Long runs of calls of all sorts on one object, up to its 512th call, which is the last one that
 * the document promises anything of: every answer is what the document says in that state.
 */
public final class RunsTest {
    private static final int MOST_CALLS = 512;
    private static final int RUNS = 1500;
    private static final int[] EDGES = {
        Integer.MIN_VALUE, Integer.MIN_VALUE + 1, -4096, -13, -12, -3, -2, -1, 12, 13, 24, 25, 31,
        32, 33, 64, 4095, 4096, 8191, 65536, Integer.MAX_VALUE - 1, Integer.MAX_VALUE,
    };

    private static final Random RANDOM = new Random(31);

    public static void main(String[] args) {
        for (int run = 0; run < RUNS; run++) {
            oneRun();
        }
        Check.end("RunsTest");
    }

    private static void oneRun() {
        RowClasses x = new RowClasses();
        Model model = new Model();
        // Some runs hardly ever change the STEPS or empty THE ROW, or none would come to be WHOLE.
        int restless = RANDOM.nextInt(3);
        for (int made = 0; made < MOST_CALLS; made++) {
            Call call = someCall(restless);
            int[] arguments = new int[call.roles.size()];
            for (int i = 0; i < arguments.length; i++) {
                arguments[i] = someNumber(call.roles.get(i), model.count());
            }
            Check.due(made + " calls before: " + call.text(arguments),
                    call.answer(x, arguments), call.due(model, arguments));
        }
    }

    private static Call someCall(int restless) {
        for (int again = 0; again < 10; again++) {
            Call call = Call.ALL.get(RANDOM.nextInt(Call.ALL.size()));
            boolean changes = call.name.equals("steps") || call.name.equals("clear");
            if (!changes || RANDOM.nextInt(20) < restless * 5) {
                return RANDOM.nextInt(4) == 0 ? Call.named("add") : call;
            }
        }
        return Call.named("add");
    }

    /** Within its bounds as a rule, that calls are not refused too often. */
    private static int someNumber(Call.Role role, int n) {
        int sort = RANDOM.nextInt(40);
        if (sort == 0) {
            return RANDOM.nextInt();
        }
        if (sort == 1) {
            return EDGES[RANDOM.nextInt(EDGES.length)];
        }
        switch (role) {
            case STEPS: return RANDOM.nextInt(13);
            case SET: return RANDOM.nextInt(1 << n);
            case KIND: return RANDOM.nextInt(3);
            case FORM: return RANDOM.nextInt(4);
            case RULE: return RANDOM.nextInt(2);
            case SIZE: return RANDOM.nextInt(n + 1);
            case PLACE: return RANDOM.nextInt(RANDOM.nextInt(n) + 1);
            case APART: return 1 + RANDOM.nextInt(n / 2 + 1);
            case STEP: return RANDOM.nextInt(n);
            case LENGTH: return 1 + RANDOM.nextInt(n);
            case BEADS: return 1 + RANDOM.nextInt(24);
            case COLOURS: return 1 + RANDOM.nextInt(6);
            default: return RANDOM.nextInt(2);
        }
    }
}
