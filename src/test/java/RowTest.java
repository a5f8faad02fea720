/** Promises 21 to 30: add, clear, form, forms, table, unlike, rows, fills, derived, kept. */
public final class RowTest {
    private static final int[] NO_STEPS = {-1, 12, Integer.MIN_VALUE, Integer.MAX_VALUE};
    private static final int[] NO_FORM_KINDS = {-1, 4, Integer.MIN_VALUE, Integer.MAX_VALUE};
    /** Webern's for his opus 24: four PIECES of three, all of one CLASS by mirroring. */
    private static final int[] DERIVED = {11, 10, 2, 3, 7, 6, 8, 4, 5, 0, 1, 9};
    /** No motion but the one that does nothing keeps it. */
    private static final int[] FIVE = {3, 1, 0, 2, 4};
    private static final int[] RISING = {0, 1, 2, 3, 4, 5, 6, 7, 8, 9, 10, 11};

    public static void main(String[] args) {
        add();
        clear();
        form();
        formRefused();
        forms();
        table();
        unlike();
        rows();
        fills();
        fillsRefused();
        derived();
        derivedRefused();
        kept();
        keptRefused();
        Check.end("RowTest");
    }

    private static void add() {
        RowClasses x = new RowClasses();
        for (int i = 0; i < 12; i++) {
            Check.due("add(" + DERIVED[i] + ")", x.add(DERIVED[i]), i + 1);
            Check.due("add(" + DERIVED[i] + ") again", x.add(DERIVED[i]), -3);
            Check.due("add(12)", x.add(12), -2);
        }
        for (int step = 0; step < 12; step++) {
            Check.due("add(" + step + ") to a whole row", x.add(step), -3);
        }
        for (int step : NO_STEPS) {
            Check.due("add(" + step + ")", x.add(step), -2);
        }
        Check.due("clear() after refusals", x.clear(), 12);
        RowClasses one = Check.circle(1);
        Check.due("1: add(1)", one.add(1), -2);
        Check.due("1: add(0)", one.add(0), 1);
        Check.due("1: add(0) again", one.add(0), -3);
    }

    private static void clear() {
        RowClasses x = Check.row(12, 3, 5);
        Check.due("clear()", x.clear(), 2);
        Check.due("clear() again", x.clear(), 0);
        Check.due("add(5) after clear()", x.add(5), 1);
        Check.due("others(0) after clear()", x.others(0), 4095);
        RowClasses other = Check.row(3, 2, 0, 1);
        other.clear();
        Check.due("forms() after clear()", other.forms(), -3);
    }

    private static void isForm(RowClasses x, int kind, int t, int... due) {
        for (int i = 0; i < due.length; i++) {
            Check.due("form(" + kind + ", " + t + ", " + i + ")", x.form(kind, t, i), due[i]);
        }
        Check.due("form(" + kind + ", " + t + ", " + due.length + ")",
                x.form(kind, t, due.length), -1);
    }

    private static void form() {
        RowClasses x = Check.row(5, FIVE);
        isForm(x, 0, 3, 3, 1, 0, 2, 4);
        isForm(x, 0, 0, 0, 3, 2, 4, 1);
        isForm(x, 1, 3, 3, 0, 1, 4, 2);
        isForm(x, 1, 4, 4, 1, 2, 0, 3);
        isForm(x, 2, 0, 1, 4, 2, 3, 0);
        isForm(x, 2, 3, 4, 2, 0, 1, 3);
        isForm(x, 3, 4, 3, 0, 2, 1, 4);
        RowClasses one = Check.row(1, 0);
        for (int kind = 0; kind < 4; kind++) {
            isForm(one, kind, 0, 0);
        }
    }

    private static void formRefused() {
        RowClasses part = Check.row(5, 3, 1, 0, 2);
        RowClasses whole = Check.row(5, FIVE);
        for (int kind : NO_FORM_KINDS) {
            Check.due("form(" + kind + ", 0, 0)", whole.form(kind, 0, 0), -2);
            Check.due("form(" + kind + ", 0, 9) of a part", part.form(kind, 0, 9), -2);
        }
        for (int t : new int[] {-1, 5, Integer.MIN_VALUE, Integer.MAX_VALUE}) {
            Check.due("form(0, " + t + ", 0)", whole.form(0, t, 0), -2);
            Check.due("form(0, " + t + ", 9) of a part", part.form(0, t, 9), -2);
        }
        Check.due("form(0, 0, 0) of a part", part.form(0, 0, 0), -3);
        Check.due("form(0, 0, 5) of a part", part.form(0, 0, 5), -3);
        for (int i : new int[] {-1, 5, Integer.MIN_VALUE, Integer.MAX_VALUE}) {
            for (int kind = 0; kind < 4; kind++) {
                Check.due("form(" + kind + ", 0, " + i + ")", whole.form(kind, 0, i), -1);
            }
        }
    }

    private static void forms() {
        Check.due("forms() of Webern's", Check.row(12, DERIVED).forms(), 48);
        // From its end on it is what mirroring makes of it.
        Check.due("forms() of a rising row", Check.row(12, RISING).forms(), 24);
        // From its end on it is itself, TURNED by 6: Webern's for his opus 21.
        Check.due("forms() of opus 21",
                Check.row(12, 9, 6, 7, 8, 4, 5, 11, 10, 2, 1, 0, 3).forms(), 24);
        Check.due("5: forms()", Check.row(5, FIVE).forms(), 20);
        Check.due("5: forms() of 3 1 0 4 2", Check.row(5, 3, 1, 0, 4, 2).forms(), 10);
        Check.due("1: forms()", Check.row(1, 0).forms(), 1);
        Check.due("2: forms()", Check.row(2, 1, 0).forms(), 2);
        Check.due("3: forms()", Check.row(3, 1, 0, 2).forms(), 6);
        Check.due("forms() of nothing", new RowClasses().forms(), -3);
        Check.due("3: forms() of a part", Check.row(3, 1, 0).forms(), -3);
    }

    private static void table() {
        RowClasses x = Check.row(5, FIVE);
        int[][] due = {
            {3, 1, 0, 2, 4}, {0, 3, 2, 4, 1}, {1, 4, 3, 0, 2}, {4, 2, 1, 3, 0}, {2, 0, 4, 1, 3},
        };
        for (int i = 0; i < 5; i++) {
            for (int j = 0; j < 5; j++) {
                Check.due("table(" + i + ", " + j + ")", x.table(i, j), due[i][j]);
            }
        }
        for (int no : new int[] {-1, 5, Integer.MIN_VALUE, Integer.MAX_VALUE}) {
            Check.due("table(" + no + ", 0)", x.table(no, 0), -1);
            Check.due("table(0, " + no + ")", x.table(0, no), -1);
            Check.due("table(" + no + ", 0) of a part", Check.row(5, 3, 1).table(no, 0), -3);
        }
        Check.due("table(0, 0) of a part", Check.row(5, 3, 1).table(0, 0), -3);
        Check.due("1: table(0, 0)", Check.row(1, 0).table(0, 0), 0);
    }

    private static void unlike() {
        Check.due("unlike() of a fan",
                Check.row(12, 5, 6, 4, 7, 3, 8, 2, 9, 1, 10, 0, 11).unlike(), 1);
        Check.due("unlike() of Webern's", Check.row(12, DERIVED).unlike(), 0);
        Check.due("unlike() of a rising row", Check.row(12, RISING).unlike(), 0);
        Check.due("4: unlike() of 0 1 3 2", Check.row(4, 0, 1, 3, 2).unlike(), 1);
        // 3, 2 and 1: INTERVALS go upward, so that 1 and 3 are unlike.
        Check.due("4: unlike() of 0 3 1 2", Check.row(4, 0, 3, 1, 2).unlike(), 1);
        Check.due("4: unlike() of 0 1 2 3", Check.row(4, 0, 1, 2, 3).unlike(), 0);
        Check.due("4: unlike() of 0 2 1 3", Check.row(4, 0, 2, 1, 3).unlike(), 0);
        Check.due("1: unlike()", Check.row(1, 0).unlike(), 1);
        Check.due("2: unlike()", Check.row(2, 1, 0).unlike(), 1);
        Check.due("unlike() of nothing", new RowClasses().unlike(), -3);
        Check.due("2: unlike() of a part", Check.row(2, 1).unlike(), -3);
    }

    private static void rows() {
        int[] due = {0, 1, 1, 0, 2, 0, 4, 0, 24, 0, 288, 0, 3856};
        RowClasses x = new RowClasses();
        for (int n = 12; n >= 1; n--) {
            x.steps(n);
            Check.due(n + ": rows()", x.rows(), due[n]);
            x.add(0);
            Check.due(n + ": rows() again, with a row", x.rows(), due[n]);
            Check.due(n + ": clear() after rows()", x.clear(), 1);
        }
    }

    private static void isFills(RowClasses x, int kind, int... due) {
        for (int i = 0; i < due.length; i++) {
            Check.due("fills(" + kind + ", " + i + ")", x.fills(kind, i), due[i]);
        }
        Check.due("fills(" + kind + ", " + due.length + ")", x.fills(kind, due.length), -1);
        Check.due("fills(" + kind + ", -1)", x.fills(kind, -1), -1);
    }

    private static void fills() {
        RowClasses rising = Check.row(12, RISING);
        isFills(rising, 0, 6);
        isFills(rising, 1, 11);
        isFills(rising, 2, 0);
        isFills(rising, 3, 5);
        // First half 0 1 4 5 8 9: TURNED by 2, 6 or 10 it is the other half.
        RowClasses x = Check.row(12, 0, 1, 4, 5, 8, 9, 2, 3, 6, 7, 10, 11);
        isFills(x, 0, 2, 6, 10);
        isFills(x, 1, 3, 7, 11);
        isFills(x, 2, 0, 4, 8);
        isFills(x, 3, 1, 5, 9);
        // 0 1 3 TURNED is never 2 4 5; MIRRORED, and TURNED by 5, it is.
        RowClasses six = Check.row(6, 0, 1, 3, 2, 4, 5);
        isFills(six, 0);
        isFills(six, 1, 5);
        isFills(Check.row(2, 1, 0), 0, 0);
    }

    private static void fillsRefused() {
        RowClasses odd = Check.row(3, 0, 1, 2);
        RowClasses part = Check.row(12, 0, 1);
        RowClasses whole = Check.row(12, RISING);
        for (int kind : NO_FORM_KINDS) {
            Check.due("fills(" + kind + ", 0)", whole.fills(kind, 0), -2);
            Check.due("fills(" + kind + ", -1) of a part", part.fills(kind, -1), -2);
            Check.due("3: fills(" + kind + ", 0)", odd.fills(kind, 0), -2);
        }
        Check.due("fills(0, 0) of a part", part.fills(0, 0), -3);
        Check.due("fills(0, -1) of a part", part.fills(0, -1), -3);
        Check.due("3: fills(0, 0)", odd.fills(0, 0), -3);
        Check.due("3: fills(0, -1)", odd.fills(0, -1), -3);
        Check.due("1: fills(0, 0)", Check.row(1, 0).fills(0, 0), -3);
        Check.due("fills(0, least)", whole.fills(0, Integer.MIN_VALUE), -1);
        Check.due("fills(0, greatest)", whole.fills(0, Integer.MAX_VALUE), -1);
    }

    private static void derived() {
        RowClasses x = Check.row(12, DERIVED);
        Check.due("derived(3, 0)", x.derived(3, 0), 0);
        Check.due("derived(3, 1)", x.derived(3, 1), 1);
        Check.due("derived(3, 2)", x.derived(3, 2), 1);
        Check.due("derived(4, 2)", x.derived(4, 2), 0);
        for (int kind = 0; kind <= 2; kind++) {
            Check.due("derived(1, " + kind + ")", x.derived(1, kind), 1);
            Check.due("derived(12, " + kind + ")", x.derived(12, kind), 1);
        }
        // Half steps and fifths, which UNITS alone make of one another.
        RowClasses pairs = Check.row(12, 0, 1, 2, 7, 3, 8, 4, 9, 5, 6, 10, 11);
        Check.due("derived(2, 0)", pairs.derived(2, 0), 0);
        Check.due("derived(2, 1)", pairs.derived(2, 1), 0);
        Check.due("derived(2, 2)", pairs.derived(2, 2), 1);
        Check.due("6: derived(2, 0)", Check.row(6, 0, 1, 2, 3, 5, 4).derived(2, 0), 1);
        // Only the last PIECE is unlike, only the first, only the one between them.
        Check.due("6: derived(2, 2)", Check.row(6, 0, 2, 3, 5, 1, 4).derived(2, 2), 0);
        Check.due("6: derived(2, 2)", Check.row(6, 1, 4, 0, 2, 3, 5).derived(2, 2), 0);
        Check.due("6: derived(2, 2)", Check.row(6, 0, 2, 1, 4, 3, 5).derived(2, 2), 0);
    }

    private static void derivedRefused() {
        RowClasses part = Check.row(12, 0, 1);
        RowClasses whole = Check.row(12, DERIVED);
        for (int kind : new int[] {-1, 3, Integer.MIN_VALUE, Integer.MAX_VALUE}) {
            Check.due("derived(3, " + kind + ")", whole.derived(3, kind), -2);
            Check.due("derived(3, " + kind + ") of a part", part.derived(3, kind), -2);
        }
        for (int d : new int[] {0, -1, -3, 5, 7, 8, 13, 24,
            Integer.MIN_VALUE, Integer.MAX_VALUE}) {
            Check.due("derived(" + d + ", 0)", whole.derived(d, 0), -2);
            Check.due("derived(" + d + ", 0) of a part", part.derived(d, 0), -2);
        }
        Check.due("derived(3, 0) of a part", part.derived(3, 0), -3);
        Check.due("derived(12, 2) of nothing", new RowClasses().derived(12, 2), -3);
    }

    private static void kept() {
        RowClasses x = Check.row(12, RISING);
        for (int d = 1; d <= 12; d++) {
            Check.due("kept(0, 0, " + d + ")", x.kept(0, 0, d), 13 - d);
            Check.due("kept(3, 0, " + d + ") begins with 1",
                    x.kept(3, 0, d), d == 1 || d == 12 ? 13 - d : 12 - d);
            Check.due("kept(2, 0, " + d + ")", x.kept(2, 0, d), 13 - d);
        }
        // From 6 on: what goes round its end is no PIECE of it, or of THE ROW.
        Check.due("kept(0, 6, 6)", x.kept(0, 6, 6), 2);
        Check.due("kept(0, 6, 7)", x.kept(0, 6, 7), 0);
        Check.due("kept(0, 6, 12)", x.kept(0, 6, 12), 1);
        Check.due("kept(0, 6, 1)", x.kept(0, 6, 1), 12);
        Check.due("5: kept(1, 3, 2)", Check.row(5, FIVE).kept(1, 3, 2), 2);
        Check.due("1: kept(3, 0, 1)", Check.row(1, 0).kept(3, 0, 1), 1);
    }

    private static void keptRefused() {
        RowClasses part = Check.row(12, 0, 1);
        RowClasses whole = Check.row(12, DERIVED);
        for (int kind : NO_FORM_KINDS) {
            Check.due("kept(" + kind + ", 0, 1)", whole.kept(kind, 0, 1), -2);
            Check.due("kept(" + kind + ", 0, 1) of a part", part.kept(kind, 0, 1), -2);
        }
        for (int t : NO_STEPS) {
            Check.due("kept(0, " + t + ", 1)", whole.kept(0, t, 1), -2);
            Check.due("kept(0, " + t + ", 1) of a part", part.kept(0, t, 1), -2);
        }
        for (int d : new int[] {0, -1, 13, Integer.MIN_VALUE, Integer.MAX_VALUE}) {
            Check.due("kept(0, 0, " + d + ")", whole.kept(0, 0, d), -2);
            Check.due("kept(0, 0, " + d + ") of a part", part.kept(0, 0, d), -2);
        }
        Check.due("kept(0, 0, 1) of a part", part.kept(0, 0, 1), -3);
        Check.due("kept(3, 11, 12) of a part", part.kept(3, 11, 12), -3);
    }
}
