import java.util.List;

/** "What it is", and promises 1 and 2: a new object, and steps. */
public final class NewObjectTest {
    public static void main(String[] args) {
        untilTheLastCall();
        newObject();
        objectsAreApart();
        stepsLeft();
        stepsBounds();
        stepsEmptyTheRow();
        stepsChangeEveryList();
        zeroThrows();
        zeroChangesNothing();
        belowZeroOrAboveTwelve();
        refusedStepsChangeNothing();
        Check.end("NewObjectTest");
    }

    private static void untilTheLastCall() {
        Check.sentence("An object is used for at most 512 calls");
        for (int n = 1; n <= 12; n++) {
            RowClasses x = new RowClasses();
            int left = 512;
            while (left > 2 * n + 4) {
                x.steps(12);
                x.rows();
                x.classes(6, left % 3);
                left -= 3;
            }
            while (left > 2 * n + 1) {
                x.steps(n);
                left--;
            }
            for (int step = 0; step < n; step++) {
                Check.due(n + ": add(" + step + ")", x.add(step), step + 1);
            }
            for (int i = 0; i < n; i++) {
                Check.due(n + ": table(0, " + i + ")", x.table(0, i), i);
            }
            Check.due(n + ": clear(), the 512th call", x.clear(), n);
        }
    }

    private static void newObject() {
        Check.sentence("promise 1: 12 STEPS");
        RowClasses x = new RowClasses();
        Check.due("others(0)", x.others(0), 4095);
        Check.due("others(4095)", x.others(4095), 0);
        Check.due("others(4096)", x.others(4096), -2);
        Check.due("add(12)", x.add(12), -2);
        Check.due("add(11)", x.add(11), 1);
        Check.due("steps(12)", new RowClasses().steps(12), 0);
        Check.due("steps(11)", new RowClasses().steps(11), 1);
        Check.sentence("promise 1: an empty ROW");
        Check.due("clear()", new RowClasses().clear(), 0);
        Check.due("unlike()", new RowClasses().unlike(), -3);
        for (int step = 0; step < 12; step++) {
            Check.due("add(" + step + ")", new RowClasses().add(step), 1);
        }
        Check.same("its state", Check.state(new RowClasses()), "n = 12, row =");
    }

    private static void objectsAreApart() {
        Check.sentence("promise 1: what one object is told, another one does not know");
        RowClasses one = Check.row(5, 4, 2);
        RowClasses other = new RowClasses();
        Check.same("the other one's state", Check.state(other), "n = 12, row =");
        Check.same("the first one's state", Check.state(one), "n = 5, row = 4 2");
    }

    private static void stepsLeft() {
        Check.sentence("promise 2: what is left of the number of STEPS before by n");
        for (int before = 1; before <= 12; before++) {
            for (int n = 1; n <= 12; n++) {
                RowClasses x = Check.circle(before);
                Check.due(before + ": steps(" + n + ")", x.steps(n), before % n);
                Check.due(n + ": others(0)", x.others(0), Check.all(n));
            }
        }
    }

    private static void stepsBounds() {
        Check.sentence("promise 2: There are n STEPS, the least and the most");
        RowClasses x = new RowClasses();
        Check.due("steps(1)", x.steps(1), 0);
        Check.due("1: others(0)", x.others(0), 1);
        Check.due("1: others(2)", x.others(2), -2);
        Check.due("1: steps(12)", x.steps(12), 1);
        Check.due("12: others(0)", x.others(0), 4095);
        Check.due("12: others(4096)", x.others(4096), -2);
    }

    private static void stepsEmptyTheRow() {
        Check.sentence("promise 2: THE ROW is empty");
        for (int length : new int[] {0, 1, 11, 12}) {
            for (int n : new int[] {1, 11, 12}) {
                RowClasses x = Check.rising(12, length);
                x.steps(n);
                Check.same("the state behind steps(" + n + ") of " + length,
                        Check.state(x), Check.stateOf(n, List.of()));
                RowClasses y = Check.rising(12, length);
                y.steps(n);
                Check.due("clear() behind steps(" + n + ") of " + length, y.clear(), 0);
                Check.due("add(0) behind steps(" + n + ") of " + length, y.add(0), 1);
            }
        }
        RowClasses whole = Check.row(2, 1, 0);
        whole.steps(2);
        Check.due("unlike() behind as many steps", whole.unlike(), -3);
    }

    private static void stepsChangeEveryList() {
        Check.sentence("promise 2: There are n STEPS, for every call from then on");
        RowClasses x = new RowClasses();
        int[] ofTwelve = {19, 12, 9};
        int[] ofSeven = {5, 4, 2};
        for (int round = 0; round < 2; round++) {
            for (int kind = 0; kind <= 2; kind++) {
                Check.due("12: classes(3, " + kind + ")", x.classes(3, kind), ofTwelve[kind]);
            }
            Check.due("12: rows()", x.rows(), 3856);
            Check.due("12: differ(6)", x.differ(6), 2);
            x.steps(7);
            for (int kind = 0; kind <= 2; kind++) {
                Check.due("7: classes(3, " + kind + ")", x.classes(3, kind), ofSeven[kind]);
                Check.due("7: nth(7, " + kind + ", 0)", x.nth(7, kind, 0), 127);
            }
            Check.due("7: rows()", x.rows(), 0);
            Check.due("7: differ(6)", x.differ(6), 0);
            x.steps(12);
        }
    }

    private static void zeroThrows() {
        Check.sentence("promise 2: ArithmeticException for 0");
        for (int n = 1; n <= 12; n++) {
            RowClasses x = Check.circle(n);
            Check.throwsArithmetic(n + ": steps(0)", () -> x.steps(0));
            Check.throwsArithmetic(n + ": steps(0) again", () -> x.steps(0));
        }
    }

    private static void zeroChangesNothing() {
        Check.sentence("promise 2: ArithmeticException for 0 (nothing changes)");
        for (int n = 1; n <= 12; n++) {
            for (int length = 0; length <= n; length++) {
                RowClasses x = Check.rising(n, length);
                RowClasses untold = Check.rising(n, length);
                Check.throwsArithmetic(n + ": steps(0)", () -> x.steps(0));
                Check.due(n + ": classes", x.classes(n / 2, 1), untold.classes(n / 2, 1));
                Check.due(n + ": rows()", x.rows(), untold.rows());
                Check.same(n + ": the state", Check.state(x), Check.state(untold));
                RowClasses y = Check.rising(n, length);
                Check.throwsArithmetic(n + ": steps(0)", () -> y.steps(0));
                Check.due(n + ": clear() behind steps(0)", y.clear(), length);
                Check.due(n + ": steps(12) behind steps(0)", y.steps(12), n % 12);
            }
        }
    }

    private static void belowZeroOrAboveTwelve() {
        Check.sentence("promise 2: -2 n is below 0");
        for (int n : new int[] {-1, -2, -12, -13, Integer.MIN_VALUE, Integer.MIN_VALUE + 1}) {
            Check.due("steps(" + n + ")", new RowClasses().steps(n), -2);
        }
        Check.sentence("promise 2: -2 n is above 12");
        for (int n : new int[] {13, 14, 24, 32, Integer.MAX_VALUE - 1, Integer.MAX_VALUE}) {
            Check.due("steps(" + n + ")", new RowClasses().steps(n), -2);
            Check.due("1: steps(" + n + ")", Check.circle(1).steps(n), -2);
        }
    }

    private static void refusedStepsChangeNothing() {
        Check.sentence("promise 2: a REFUSAL changes nothing");
        int[] refused = {-1, 13, Integer.MIN_VALUE, Integer.MAX_VALUE};
        for (int n = 1; n <= 12; n++) {
            for (int length = 0; length <= n; length++) {
                RowClasses x = Check.rising(n, length);
                RowClasses untold = Check.rising(n, length);
                for (int no : refused) {
                    Check.due(n + ": steps(" + no + ")", x.steps(no), -2);
                }
                Check.due(n + ": classes", x.classes(n / 2, 2), untold.classes(n / 2, 2));
                Check.same(n + ": the state", Check.state(x), Check.state(untold));
            }
        }
    }
}
