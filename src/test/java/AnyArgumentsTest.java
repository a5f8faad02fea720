import java.util.Random;

/**
 * Calls with arguments of all sorts, in many states: none throws but steps(0), none answers below
 * -3, and what refuses changes nothing.
 */
public final class AnyArgumentsTest {
    private static final int[] EDGES = {
        Integer.MIN_VALUE, Integer.MIN_VALUE + 1, -4096, -13, -12, -3, -2, -1, 0, 1, 2, 3, 4, 5, 6,
        7, 8, 9, 10, 11, 12, 13, 24, 25, 31, 32, 33, 64, 145, 585, 2047, 2048, 2741, 4095, 4096,
        8191, 65536, Integer.MAX_VALUE - 1, Integer.MAX_VALUE,
    };
    private static final int CALLS = 30;

    private static final Random RANDOM = new Random(31);

    public static void main(String[] args) {
        for (int object = 0; object < 2000; object++) {
            int n = 1 + RANDOM.nextInt(12);
            RowClasses x = Check.circle(n);
            RowClasses shadow = Check.circle(n);
            if (object % 2 == 0) {
                fill(x);
                fill(shadow);
            }
            for (int made = 0; made < 400; made++) {
                look(x, shadow, RANDOM.nextInt(CALLS));
            }
            sameState(x, shadow);
        }
        Check.end("AnyArgumentsTest");
    }

    private static void fill(RowClasses x) {
        for (int step = 11; step >= 0; step--) {
            x.add(step);
        }
    }

    /** Small numbers as a rule, that calls are not refused too often. */
    private static int any() {
        int sort = RANDOM.nextInt(8);
        if (sort == 0) {
            return RANDOM.nextInt();
        }
        if (sort <= 2) {
            return EDGES[RANDOM.nextInt(EDGES.length)];
        }
        return sort == 3 ? RANDOM.nextInt(4097) : RANDOM.nextInt(5);
    }

    private static void sameState(RowClasses x, RowClasses shadow) {
        Check.due("others(0)", x.others(0), shadow.others(0));
        for (int i = 0; i < 12; i++) {
            for (int kind = 0; kind < 4; kind++) {
                Check.due("form(" + kind + ", 0, " + i + ")",
                        x.form(kind, 0, i), shadow.form(kind, 0, i));
            }
            Check.due("table(0, " + i + ")", x.table(0, i), shadow.table(0, i));
        }
        for (int step = 0; step < 12; step++) {
            Check.due("add(" + step + ")", x.add(step), shadow.add(step));
        }
        Check.due("clear()", x.clear(), shadow.clear());
    }

    /** The shadow is told of nothing but of what changes the state, if it was not refused. */
    private static void look(RowClasses x, RowClasses shadow, int call) {
        int a = any();
        int b = any();
        int c = any();
        boolean flag = RANDOM.nextBoolean();
        String text = "call " + call + " with " + a + ", " + b + ", " + c + ", " + flag;
        try {
            long answer = call < 15 ? first(x, call, a, b, c, flag) : second(x, call, a, b, c, flag);
            Check.holds(text + " answered " + answer, answer >= -3);
            Check.holds(text + " threw nothing", call != 0 || a != 0);
            if (answer >= 0 && (call == 0 || call == 19 || call == 20 && a == 0)) {
                long same = call == 0 ? shadow.steps(a) : second(shadow, call, a, b, c, flag);
                Check.due(text, answer, same);
            }
        } catch (ArithmeticException e) {
            Check.holds(text + " threw " + e, call == 0 && a == 0);
        } catch (RuntimeException e) {
            Check.holds(text + " threw " + e, false);
        }
    }

    private static long first(RowClasses x, int call, int a, int b, int c, boolean flag) {
        switch (call) {
            case 0: return x.steps(a);
            case 1: return x.least(a, b);
            case 2: return x.size(a, b);
            case 3: return x.classes(a, b);
            case 4: return x.nth(a, b, c);
            case 5: return x.normal(a, b, c);
            case 6: return x.prime(a, b, c);
            case 7: return x.differ(a);
            case 8: return x.vector(a, b);
            case 9: return x.twin(a);
            case 10: return x.others(a);
            case 11: return x.multiplied(a, b);
            case 12: return x.within(a, b, c);
            case 13: return x.common(a, b, c, flag);
            default: return x.best(a, b, flag);
        }
    }

    private static long second(RowClasses x, int call, int a, int b, int c, boolean flag) {
        switch (call) {
            case 15: return x.keeps(a, flag);
            case 16: return x.even(a);
            case 17: return x.spread(a, b);
            case 18: return x.generator(a);
            case 19: return x.add(a);
            case 20: return a == 0 ? x.clear() : x.forms();
            case 21: return x.form(a, b, c);
            case 22: return x.forms();
            case 23: return x.table(a, b);
            case 24: return x.unlike();
            case 25: return x.rows();
            case 26: return x.fills(a, b);
            case 27: return x.derived(a, b);
            case 28: return x.kept(a, b, c);
            default: return x.rounds(a, b, flag);
        }
    }
}
