import java.util.function.LongSupplier;

/** Counts and tells the calls whose answer is not the one that is due. */
final class Check {
    private static int wrong = 0;
    private static int made = 0;

    private Check() {
    }

    static void due(String call, long got, long want) {
        made++;
        if (got != want) {
            tell(call + " answered " + got + ", due is " + want);
        }
    }

    static void holds(String what, boolean truth) {
        made++;
        if (!truth) {
            tell(what);
        }
    }

    /** The call throws an ArithmeticException, and no class below it. */
    static void throwsArithmetic(String call, LongSupplier made) {
        Class<?> thrown = null;
        try {
            made.getAsLong();
        } catch (RuntimeException e) {
            thrown = e.getClass();
        }
        holds(call + " threw " + thrown + ", due is an ArithmeticException",
                thrown == ArithmeticException.class);
    }

    /** A new object with n STEPS. */
    static RowClasses circle(int n) {
        RowClasses x = new RowClasses();
        if (n != 12) {
            x.steps(n);
        }
        return x;
    }

    /** A new object with n STEPS, and THE ROW. */
    static RowClasses row(int n, int... steps) {
        RowClasses x = circle(n);
        for (int step : steps) {
            x.add(step);
        }
        return x;
    }

    /** A SET's number. */
    static int set(int... steps) {
        int bits = 0;
        for (int step : steps) {
            bits |= 1 << step;
        }
        return bits;
    }

    static void end(String name) {
        System.out.println(name + ": " + made + " answers looked at, " + wrong + " wrong");
        if (wrong != 0 || made == 0) {
            System.exit(1);
        }
    }

    private static void tell(String text) {
        wrong++;
        if (wrong <= 20) {
            System.out.println(text);
        }
    }
}
