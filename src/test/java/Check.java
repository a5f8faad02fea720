import java.util.HashSet;
import java.util.Set;
import java.util.function.LongSupplier;

/** Counts and tells the calls whose answer is not the one that is due. */
final class Check {
    private static final int MOST_TOLD = 20;

    private static final Set<String> SENTENCES = new HashSet<>();

    private static String sentence = "";
    private static int wrong = 0;
    private static int made = 0;

    private Check() {
    }

    /** The document's words that the answers looked at from here on belong to. */
    static void sentence(String words) {
        sentence = words;
        SENTENCES.add(words);
    }

    static void due(String call, long got, long want) {
        made++;
        if (got != want) {
            tell(call + " answered " + got + ", due is " + want);
        }
    }

    static void holds(String what, boolean truth) {
        made++;
        if (!truth) {
            tell(what);
        }
    }

    static void same(String what, String got, String want) {
        holds(what + " is " + got + ", due is " + want, got.equals(want));
    }

    /** The call throws an ArithmeticException, and no class below it. */
    static void throwsArithmetic(String call, LongSupplier made) {
        Class<?> thrown = null;
        try {
            made.getAsLong();
        } catch (RuntimeException e) {
            thrown = e.getClass();
        }
        holds(call + " threw " + thrown + ", due is an ArithmeticException",
                thrown == ArithmeticException.class);
    }

    /** A new object with n STEPS. */
    static RowClasses circle(int n) {
        RowClasses x = new RowClasses();
        if (n != 12) {
            x.steps(n);
        }
        return x;
    }

    /** A new object with n STEPS, and THE ROW. */
    static RowClasses row(int n, int... steps) {
        RowClasses x = circle(n);
        for (int step : steps) {
            x.add(step);
        }
        return x;
    }

    /** A new object with n STEPS, and the first of them, rising, in THE ROW. */
    static RowClasses rising(int n, int length) {
        RowClasses x = circle(n);
        for (int step = 0; step < length; step++) {
            x.add(step);
        }
        return x;
    }

    /** A SET's number. */
    static int set(int... steps) {
        int bits = 0;
        for (int step : steps) {
            bits |= 1 << step;
        }
        return bits;
    }

    static int all(int n) {
        return (1 << n) - 1;
    }

    /**
     * What an object's state is, by what it answers: how many STEPS, and THE ROW. The missing STEPS
     * are added so that the table can tell THE ROW; so the object is of no use afterwards.
     */
    static String state(RowClasses x) {
        int n = Integer.bitCount(x.others(0));
        int had = n;
        for (int step = 0; step < n; step++) {
            if (x.add(step) > 0) {
                had--;
            }
        }
        StringBuilder text = new StringBuilder("n = " + n + ", row =");
        for (int i = 0; i < had; i++) {
            text.append(' ').append(x.table(0, i));
        }
        return text.toString();
    }

    /** The same text, of a state that is known. */
    static String stateOf(int n, Iterable<Integer> row) {
        StringBuilder text = new StringBuilder("n = " + n + ", row =");
        for (int step : row) {
            text.append(' ').append(step);
        }
        return text.toString();
    }

    static void end(String name) {
        System.out.println(name + ": " + made + " answers looked at, of "
                + SENTENCES.size() + " sentences, " + wrong + " wrong");
        if (wrong != 0 || made == 0) {
            System.exit(1);
        }
    }

    private static void tell(String text) {
        wrong++;
        if (wrong <= MOST_TOLD) {
            System.out.println(sentence.isEmpty() ? text : "[" + sentence + "] " + text);
        }
    }
}
