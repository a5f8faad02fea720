/** Promises 1 and 2: a new object, and steps. */
public final class NewObjectTest {
    public static void main(String[] args) {
        newObject();
        stepsLeft();
        stepsEmptyTheRow();
        stepsChangeEveryList();
        noSteps();
        stepsOutside();
        Check.end("NewObjectTest");
    }

    private static void newObject() {
        RowClasses x = new RowClasses();
        Check.due("new: others(0)", x.others(0), 4095);
        Check.due("new: add(12)", x.add(12), -2);
        Check.due("new: unlike()", x.unlike(), -3);
        Check.due("new: clear()", x.clear(), 0);
        Check.due("new: add(11)", x.add(11), 1);
        Check.due("another new one: clear()", new RowClasses().clear(), 0);
    }

    private static void stepsLeft() {
        RowClasses x = new RowClasses();
        Check.due("12: steps(12)", x.steps(12), 0);
        Check.due("12: steps(5)", x.steps(5), 2);
        Check.due("5: steps(12)", x.steps(12), 5);
        Check.due("12: steps(7)", x.steps(7), 5);
        Check.due("7: steps(1)", x.steps(1), 0);
        Check.due("1: steps(1)", x.steps(1), 0);
        Check.due("1: steps(2)", x.steps(2), 1);
        Check.due("2: others(0)", x.others(0), 3);
    }

    private static void stepsEmptyTheRow() {
        RowClasses x = Check.row(12, 3, 4);
        x.steps(12);
        Check.due("clear() after steps(12)", x.clear(), 0);
        Check.due("add(3) after steps(12)", x.add(3), 1);
        RowClasses whole = Check.row(2, 1, 0);
        whole.steps(3);
        Check.due("unlike() after steps(3)", whole.unlike(), -3);
        Check.due("add(1) after steps(3)", whole.add(1), 1);
    }

    private static void stepsChangeEveryList() {
        RowClasses x = new RowClasses();
        int[] ofTwelve = {19, 12, 9};
        int[] ofSeven = {5, 4, 2};
        for (int round = 0; round < 2; round++) {
            for (int kind = 0; kind <= 2; kind++) {
                Check.due("12: classes(3, " + kind + ")", x.classes(3, kind), ofTwelve[kind]);
            }
            Check.due("12: rows()", x.rows(), 3856);
            x.steps(7);
            for (int kind = 0; kind <= 2; kind++) {
                Check.due("7: classes(3, " + kind + ")", x.classes(3, kind), ofSeven[kind]);
            }
            Check.due("7: rows()", x.rows(), 0);
            x.steps(12);
        }
    }

    private static void noSteps() {
        RowClasses x = Check.row(5, 2, 4);
        Check.throwsArithmetic("steps(0)", () -> x.steps(0));
        Check.throwsArithmetic("steps(0) again", () -> x.steps(0));
        Check.due("others(0) after steps(0)", x.others(0), 31);
        Check.due("add(2) after steps(0)", x.add(2), -3);
        Check.due("clear() after steps(0)", x.clear(), 2);
        Check.due("steps(3) after steps(0)", x.steps(3), 2);
    }

    private static void stepsOutside() {
        RowClasses x = Check.row(5, 2, 4);
        for (int n : new int[] {-1, 13, -12, 24, Integer.MIN_VALUE, Integer.MAX_VALUE}) {
            Check.due("steps(" + n + ")", x.steps(n), -2);
        }
        Check.due("others(0) after refusals", x.others(0), 31);
        Check.due("clear() after refusals", x.clear(), 2);
    }
}
