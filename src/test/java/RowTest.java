import java.util.List;

/** Promises 21 to 27: add, clear, form, forms, table, unlike, rows. */
public final class RowTest {
    private static final int LEAST = Integer.MIN_VALUE;
    private static final int GREATEST = Integer.MAX_VALUE;
    private static final int[] NO_FORM_KINDS = {-1, 4, 5, LEAST, LEAST + 1, GREATEST};
    /** Webern's for his opus 24. */
    private static final int[] WEBERN = {11, 10, 2, 3, 7, 6, 8, 4, 5, 0, 1, 9};
    /** No motion but the one that does nothing keeps it. */
    private static final int[] FIVE = {3, 1, 0, 2, 4};

    public static void main(String[] args) {
        add();
        addBounds();
        addWhatIsInIt();
        addRefusedChangesNothing();
        clear();
        clearOfNoneOneAndAll();
        form();
        formOfOneStep();
        formFirstAndLast();
        formRefusals();
        formTwoRefusals();
        forms();
        formsOfTheSmallest();
        table();
        tableFirstAndLast();
        tableRefusals();
        unlike();
        notWhole();
        rows();
        rowsInAnyState();
        refusalsChangeNothing();
        Check.end("RowTest");
    }

    private static int[] noStepsOf(int n) {
        return new int[] {-1, n, n + 1, -n, LEAST, LEAST + 1, GREATEST - 1, GREATEST};
    }

    private static void add() {
        Check.sentence("promise 21: A STEP comes behind THE ROW: how many it has");
        for (int n = 1; n <= 12; n++) {
            RowClasses up = Check.circle(n);
            RowClasses down = Check.circle(n);
            for (int i = 0; i < n; i++) {
                Check.due(n + ": add(" + i + ")", up.add(i), i + 1);
                Check.due(n + ": add(" + (n - 1 - i) + ")", down.add(n - 1 - i), i + 1);
            }
            for (int i = 0; i < n; i++) {
                Check.due(n + ": table(0, " + i + ")", up.table(0, i), i);
                Check.due(n + ": table(0, " + i + ")", down.table(0, i), n - 1 - i);
            }
        }
    }

    private static void addBounds() {
        Check.sentence("promise 21: -2");
        for (int n = 1; n <= 12; n++) {
            for (int length : new int[] {0, n - 1, n}) {
                RowClasses x = Check.rising(n, length);
                for (int step : noStepsOf(n)) {
                    Check.due(n + ": add(" + step + ") to " + length, x.add(step), -2);
                }
            }
        }
    }

    private static void addWhatIsInIt() {
        Check.sentence("promise 21: -3 it is in it");
        for (int n = 1; n <= 12; n++) {
            for (int length = 1; length <= n; length++) {
                RowClasses x = Check.rising(n, length);
                for (int step = 0; step < length; step++) {
                    Check.due(n + ": add(" + step + ") to " + length, x.add(step), -3);
                }
                if (length < n) {
                    Check.due(n + ": add(" + length + ")", x.add(length), length + 1);
                }
            }
        }
    }

    private static void addRefusedChangesNothing() {
        Check.sentence("promise 21: a REFUSAL changes nothing");
        for (int n = 1; n <= 12; n++) {
            for (int length = 0; length <= n; length++) {
                RowClasses x = Check.rising(n, length);
                RowClasses untold = Check.rising(n, length);
                for (int step : noStepsOf(n)) {
                    x.add(step);
                }
                for (int step = 0; step < length; step++) {
                    x.add(step);
                }
                Check.same(n + ": the state", Check.state(x), Check.state(untold));
            }
        }
    }

    private static void clear() {
        Check.sentence("promise 22: THE ROW is empty");
        RowClasses x = Check.row(12, 3, 5);
        Check.due("clear()", x.clear(), 2);
        Check.due("add(5) behind clear()", x.add(5), 1);
        Check.due("add(5) once more", x.add(5), -3);
        Check.due("add(3) behind clear()", x.add(3), 2);
        Check.same("the state", Check.state(x), "n = 12, row = 5 3");
    }

    private static void clearOfNoneOneAndAll() {
        Check.sentence("promise 22: how many STEPS it had");
        for (int n = 1; n <= 12; n++) {
            for (int length = 0; length <= n; length++) {
                RowClasses x = Check.rising(n, length);
                Check.due(n + ": clear() of " + length, x.clear(), length);
                Check.due(n + ": clear() again", x.clear(), 0);
                Check.due(n + ": forms() behind clear()", x.forms(), -3);
                Check.same(n + ": the state", Check.state(x), Check.stateOf(n, List.of()));
            }
        }
    }

    private static void isForm(RowClasses x, int kind, int t, int... due) {
        for (int i = 0; i < due.length; i++) {
            Check.due("form(" + kind + ", " + t + ", " + i + ")", x.form(kind, t, i), due[i]);
        }
        Check.due("form(" + kind + ", " + t + ", " + due.length + ")",
                x.form(kind, t, due.length), -1);
    }

    private static void form() {
        Check.sentence("promise 23: STEP i, from 0, of a FORM");
        RowClasses x = Check.row(5, FIVE);
        isForm(x, 0, 3, 3, 1, 0, 2, 4);
        isForm(x, 0, 0, 0, 3, 2, 4, 1);
        isForm(x, 1, 3, 3, 0, 1, 4, 2);
        isForm(x, 1, 4, 4, 1, 2, 0, 3);
        isForm(x, 2, 0, 1, 4, 2, 3, 0);
        isForm(x, 2, 3, 4, 2, 0, 1, 3);
        isForm(x, 3, 4, 3, 0, 2, 1, 4);
        RowClasses y = Check.row(12, WEBERN);
        isForm(y, 0, 11, WEBERN);
        isForm(y, 0, 0, 0, 11, 3, 4, 8, 7, 9, 5, 6, 1, 2, 10);
        isForm(y, 1, 0, 0, 1, 9, 8, 4, 5, 3, 7, 6, 11, 10, 2);
        isForm(y, 2, 11, 9, 1, 0, 5, 4, 8, 6, 7, 3, 2, 10, 11);
        isForm(y, 3, 11, 1, 9, 10, 5, 6, 2, 4, 3, 7, 8, 0, 11);
    }

    private static void formOfOneStep() {
        Check.sentence("promise 23: of 1 and of 2 STEPS");
        RowClasses one = Check.row(1, 0);
        for (int kind = 0; kind < 4; kind++) {
            isForm(one, kind, 0, 0);
        }
        RowClasses two = Check.row(2, 1, 0);
        for (int kind = 0; kind < 2; kind++) {
            isForm(two, kind, 0, 0, 1);
            isForm(two, kind, 1, 1, 0);
            isForm(two, kind + 2, 0, 1, 0);
            isForm(two, kind + 2, 1, 0, 1);
        }
    }

    private static void formFirstAndLast() {
        Check.sentence("promise 23: the first place and the last one, t is 0 and n - 1");
        for (int n = 1; n <= 12; n++) {
            RowClasses x = Check.rising(n, n);
            for (int t : new int[] {0, n - 1}) {
                String of = n + ": form(kind, " + t + ", ";
                int before = (t + n - 1) % n;
                int behind = (t + 1) % n;
                Check.due(of + "0), 0", x.form(0, t, 0), t);
                Check.due(of + "n - 1), 0", x.form(0, t, n - 1), before);
                Check.due(of + "0), 1", x.form(1, t, 0), t);
                Check.due(of + "n - 1), 1", x.form(1, t, n - 1), behind);
                Check.due(of + "0), 2", x.form(2, t, 0), before);
                Check.due(of + "n - 1), 2", x.form(2, t, n - 1), t);
                Check.due(of + "0), 3", x.form(3, t, 0), behind);
                Check.due(of + "n - 1), 3", x.form(3, t, n - 1), t);
            }
        }
    }

    private static void formRefusals() {
        for (int n = 1; n <= 12; n++) {
            RowClasses whole = Check.rising(n, n);
            Check.sentence("promise 23: -2 kind");
            for (int kind : NO_FORM_KINDS) {
                Check.due(n + ": form(" + kind + ", 0, 0)", whole.form(kind, 0, 0), -2);
            }
            Check.sentence("promise 23: -2 t");
            for (int t : noStepsOf(n)) {
                Check.due(n + ": form(0, " + t + ", 0)", whole.form(0, t, 0), -2);
                Check.due(n + ": form(3, " + t + ", 0)", whole.form(3, t, 0), -2);
            }
            Check.sentence("promise 23: -3");
            for (int length = 0; length < n; length++) {
                RowClasses part = Check.rising(n, length);
                Check.due(n + ": form(0, 0, 0) of " + length, part.form(0, 0, 0), -3);
                Check.due(n + ": form(3, n - 1, 0) of " + length, part.form(3, n - 1, 0), -3);
            }
            Check.sentence("promise 23: -1");
            for (int i : noStepsOf(n)) {
                for (int kind = 0; kind < 4; kind++) {
                    Check.due(n + ": form(" + kind + ", 0, " + i + ")", whole.form(kind, 0, i), -1);
                }
            }
        }
    }

    private static void formTwoRefusals() {
        for (int n = 1; n <= 12; n++) {
            RowClasses whole = Check.rising(n, n);
            RowClasses part = Check.rising(n, n - 1);
            for (int kind : NO_FORM_KINDS) {
                Check.sentence("promise 23: -2 kind before -3");
                Check.due(n + ": form(" + kind + ", 0, 0)", part.form(kind, 0, 0), -2);
                Check.sentence("promise 23: -2 kind before -1");
                Check.due(n + ": form(" + kind + ", 0, -1)", whole.form(kind, 0, -1), -2);
                Check.due(n + ": form(" + kind + ", 0, n)", whole.form(kind, 0, n), -2);
                Check.sentence("promise 23: -2 kind, t");
                Check.due(n + ": form(" + kind + ", n, 0)", whole.form(kind, n, 0), -2);
            }
            for (int t : noStepsOf(n)) {
                Check.sentence("promise 23: -2 t before -3");
                Check.due(n + ": form(0, " + t + ", 0)", part.form(0, t, 0), -2);
                Check.sentence("promise 23: -2 t before -1");
                Check.due(n + ": form(0, " + t + ", n)", whole.form(0, t, n), -2);
                Check.sentence("promise 23: -2 before -3 before -1");
                Check.due(n + ": form(0, " + t + ", n)", part.form(0, t, n), -2);
            }
            Check.sentence("promise 23: -3 before -1");
            for (int i : noStepsOf(n)) {
                Check.due(n + ": form(0, 0, " + i + ")", part.form(0, 0, i), -3);
            }
            // The place behind the last one that is in it.
            Check.due(n + ": form(0, 0, n - 1)", part.form(0, 0, n - 1), -3);
        }
    }

    private static void forms() {
        Check.sentence("promise 24: How many FORMS, of all KINDS and t, are unlike");
        Check.due("forms() of Webern's", Check.row(12, WEBERN).forms(), 48);
        // From its end on it is what mirroring makes of it.
        Check.due("forms() of a rising row", Check.rising(12, 12).forms(), 24);
        // From its end on it is itself, TURNED by 6: Webern's for his opus 21.
        Check.due("forms() of opus 21",
                Check.row(12, 9, 6, 7, 8, 4, 5, 11, 10, 2, 1, 0, 3).forms(), 24);
        Check.due("5: forms()", Check.row(5, FIVE).forms(), 20);
        Check.due("5: forms() of 3 1 0 4 2", Check.row(5, 3, 1, 0, 4, 2).forms(), 10);
    }

    private static void formsOfTheSmallest() {
        Check.sentence("promise 24: of 1, 2 and 3 STEPS");
        Check.due("1: forms()", Check.row(1, 0).forms(), 1);
        Check.due("2: forms()", Check.row(2, 1, 0).forms(), 2);
        Check.due("2: forms()", Check.row(2, 0, 1).forms(), 2);
        Check.due("3: forms()", Check.row(3, 1, 0, 2).forms(), 6);
        Check.due("3: forms()", Check.row(3, 2, 1, 0).forms(), 6);
        Check.due("4: forms()", Check.row(4, 0, 1, 2, 3).forms(), 8);
        Check.due("4: forms()", Check.row(4, 0, 2, 1, 3).forms(), 8);
        Check.due("4: forms()", Check.row(4, 0, 1, 3, 2).forms(), 8);
    }

    private static void table() {
        Check.sentence("promise 25: STEP j of the FORM of KIND 0 whose t is STEP i of ..");
        RowClasses x = Check.row(5, FIVE);
        int[][] due = {
            {3, 1, 0, 2, 4}, {0, 3, 2, 4, 1}, {1, 4, 3, 0, 2}, {4, 2, 1, 3, 0}, {2, 0, 4, 1, 3},
        };
        for (int i = 0; i < 5; i++) {
            for (int j = 0; j < 5; j++) {
                Check.due("table(" + i + ", " + j + ")", x.table(i, j), due[i][j]);
            }
        }
    }

    private static void tableFirstAndLast() {
        Check.sentence("promise 25: the first place and the last one");
        for (int n = 1; n <= 12; n++) {
            RowClasses x = Check.rising(n, n);
            Check.due(n + ": table(0, 0)", x.table(0, 0), 0);
            Check.due(n + ": table(0, n - 1)", x.table(0, n - 1), n - 1);
            Check.due(n + ": table(n - 1, 0)", x.table(n - 1, 0), 1 % n);
            Check.due(n + ": table(n - 1, n - 1)", x.table(n - 1, n - 1), 0);
        }
    }

    private static void tableRefusals() {
        for (int n = 1; n <= 12; n++) {
            RowClasses whole = Check.rising(n, n);
            RowClasses part = Check.rising(n, n - 1);
            Check.sentence("promise 25: -3");
            Check.due(n + ": table(0, 0) of a part", part.table(0, 0), -3);
            Check.due(n + ": table(0, 0) of nothing", Check.circle(n).table(0, 0), -3);
            for (int no : noStepsOf(n)) {
                Check.sentence("promise 25: -1 (either)");
                Check.due(n + ": table(" + no + ", 0)", whole.table(no, 0), -1);
                Check.due(n + ": table(0, " + no + ")", whole.table(0, no), -1);
                Check.sentence("promise 25: -1 (both)");
                Check.due(n + ": table(" + no + ", " + no + ")", whole.table(no, no), -1);
                Check.sentence("promise 25: -3 before -1");
                Check.due(n + ": table(" + no + ", 0) of a part", part.table(no, 0), -3);
                Check.due(n + ": table(0, " + no + ") of a part", part.table(0, no), -3);
            }
        }
    }

    private static void unlike() {
        Check.sentence("promise 26: Whether all INTERVALS of THE ROW are unlike: 1 or 0");
        Check.due("unlike() of a fan",
                Check.row(12, 5, 6, 4, 7, 3, 8, 2, 9, 1, 10, 0, 11).unlike(), 1);
        Check.due("unlike() of Webern's", Check.row(12, WEBERN).unlike(), 0);
        Check.due("4: unlike() of 0 1 3 2", Check.row(4, 0, 1, 3, 2).unlike(), 1);
        Check.due("4: unlike() of 0 2 1 3", Check.row(4, 0, 2, 1, 3).unlike(), 0);
        Check.sentence("promise 26: of 1 and 2 STEPS; of a rising row, of an odd number");
        Check.due("1: unlike()", Check.row(1, 0).unlike(), 1);
        Check.due("2: unlike()", Check.row(2, 1, 0).unlike(), 1);
        for (int n = 3; n <= 12; n++) {
            Check.due(n + ": unlike() of a rising row", Check.rising(n, n).unlike(), 0);
        }
        Check.due("3: unlike() of 0 2 1", Check.row(3, 0, 2, 1).unlike(), 0);
        Check.due("5: unlike()", Check.row(5, FIVE).unlike(), 0);
    }

    private static void notWhole() {
        for (int n = 1; n <= 12; n++) {
            for (int length = 0; length < n; length++) {
                RowClasses part = Check.rising(n, length);
                Check.sentence("promise 24: -3");
                Check.due(n + ": forms() of " + length, part.forms(), -3);
                Check.sentence("promise 26: -3");
                Check.due(n + ": unlike() of " + length, part.unlike(), -3);
            }
        }
    }

    private static void rows() {
        Check.sentence("promise 27: How many WHOLE ROWS that begin with 0 ..");
        int[] due = {0, 1, 1, 0, 2, 0, 4, 0, 24, 0, 288, 0, 3856};
        RowClasses x = new RowClasses();
        for (int n = 12; n >= 1; n--) {
            x.steps(n);
            Check.due(n + ": rows()", x.rows(), due[n]);
            Check.due(n + ": rows() again", x.rows(), due[n]);
        }
        for (int n = 1; n <= 12; n++) {
            x.steps(n);
            Check.due(n + ": rows() once more", x.rows(), due[n]);
        }
    }

    private static void rowsInAnyState() {
        Check.sentence("promise 27: whatever THE ROW has, and nothing changes");
        int[] due = {0, 1, 1, 0, 2, 0, 4, 0, 24, 0, 288, 0, 3856};
        for (int n = 1; n <= 12; n++) {
            for (int length : new int[] {0, 1, n - 1, n}) {
                RowClasses x = Check.rising(n, length);
                RowClasses untold = Check.rising(n, length);
                Check.due(n + ": rows() with " + length, x.rows(), due[n]);
                Check.same(n + ": the state", Check.state(x), Check.state(untold));
            }
        }
    }

    private static void refusalsChangeNothing() {
        Check.sentence("promises 23 to 26: a REFUSAL changes nothing");
        for (int n = 1; n <= 12; n++) {
            for (int length : new int[] {0, n - 1, n}) {
                RowClasses x = Check.rising(n, length);
                RowClasses untold = Check.rising(n, length);
                x.form(-1, 0, 0);
                x.form(0, n, 0);
                x.form(0, 0, n);
                x.forms();
                x.table(-1, 0);
                x.table(0, n);
                x.unlike();
                Check.same(n + ": the state", Check.state(x), Check.state(untold));
            }
        }
    }
}
