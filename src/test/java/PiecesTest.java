/** Promises 28 to 30: fills, derived, kept. */
public final class PiecesTest {
    private static final int LEAST = Integer.MIN_VALUE;
    private static final int GREATEST = Integer.MAX_VALUE;
    private static final int[] NO_FORM_KINDS = {-1, 4, 5, LEAST, LEAST + 1, GREATEST};
    private static final int[] NO_KINDS = {-1, 3, 4, LEAST, LEAST + 1, GREATEST};
    private static final int[] NO_PLACES = {-1, 12, 13, LEAST, LEAST + 1, GREATEST};
    /** Webern's for his opus 24: four PIECES of three, all of one CLASS by mirroring. */
    private static final int[] WEBERN = {11, 10, 2, 3, 7, 6, 8, 4, 5, 0, 1, 9};

    public static void main(String[] args) {
        fills();
        fillsSeveral();
        fillsOfTwo();
        fillsRefusals();
        fillsTwoRefusals();
        derived();
        derivedEachPiece();
        derivedOfOneAndAll();
        derivedBounds();
        derivedTwoRefusals();
        kept();
        keptOfOneAndAll();
        keptBounds();
        keptTwoRefusals();
        refusalsChangeNothing();
        Check.end("PiecesTest");
    }

    private static int[] noStepsOf(int n) {
        return new int[] {-1, n, n + 1, -n, LEAST, LEAST + 1, GREATEST};
    }

    private static void isFills(RowClasses x, int kind, int... due) {
        Check.due("fills(" + kind + ", -1)", x.fills(kind, -1), -1);
        for (int i = 0; i < due.length; i++) {
            Check.due("fills(" + kind + ", " + i + ")", x.fills(kind, i), due[i]);
        }
        Check.due("fills(" + kind + ", " + due.length + ")", x.fills(kind, due.length), -1);
    }

    private static void fills() {
        Check.sentence("promise 28: t .. with which the FORM's first half has no STEP in common");
        for (int n = 2; n <= 12; n += 2) {
            RowClasses rising = Check.rising(n, n);
            isFills(rising, 0, n / 2);
            isFills(rising, 1, n - 1);
            isFills(rising, 2, 0);
            isFills(rising, 3, n / 2 - 1);
        }
        // 0 1 3 TURNED is never 2 4 5; MIRRORED, and TURNED by 5, it is.
        RowClasses six = Check.row(6, 0, 1, 3, 2, 4, 5);
        isFills(six, 0);
        isFills(six, 1, 5);
    }

    private static void fillsSeveral() {
        Check.sentence("promise 28: The i-th, from 0, rising");
        // First half 0 1 4 5 8 9: TURNED by 2, 6 or 10 it is the other half.
        RowClasses x = Check.row(12, 0, 1, 4, 5, 8, 9, 2, 3, 6, 7, 10, 11);
        isFills(x, 0, 2, 6, 10);
        isFills(x, 1, 3, 7, 11);
        isFills(x, 2, 0, 4, 8);
        isFills(x, 3, 1, 5, 9);
        RowClasses wholeSteps = Check.row(12, 0, 2, 4, 6, 8, 10, 1, 3, 5, 7, 9, 11);
        isFills(wholeSteps, 0, 1, 3, 5, 7, 9, 11);
        isFills(wholeSteps, 1, 1, 3, 5, 7, 9, 11);
        isFills(wholeSteps, 2, 0, 2, 4, 6, 8, 10);
        isFills(wholeSteps, 3, 0, 2, 4, 6, 8, 10);
    }

    private static void fillsOfTwo() {
        Check.sentence("promise 28: of 2 STEPS, the halves having one");
        isFills(Check.row(2, 1, 0), 0, 0);
        isFills(Check.row(2, 1, 0), 1, 0);
        isFills(Check.row(2, 1, 0), 2, 1);
        isFills(Check.row(2, 1, 0), 3, 1);
        isFills(Check.row(2, 0, 1), 0, 1);
        isFills(Check.row(2, 0, 1), 2, 0);
    }

    private static void fillsRefusals() {
        for (int n = 2; n <= 12; n += 2) {
            RowClasses whole = Check.rising(n, n);
            Check.sentence("promise 28: -2 kind");
            for (int kind : NO_FORM_KINDS) {
                Check.due(n + ": fills(" + kind + ", 0)", whole.fills(kind, 0), -2);
            }
            Check.sentence("promise 28: -3 not WHOLE");
            for (int length = 0; length < n; length++) {
                RowClasses part = Check.rising(n, length);
                Check.due(n + ": fills(0, 0) of " + length, part.fills(0, 0), -3);
                Check.due(n + ": fills(3, 0) of " + length, part.fills(3, 0), -3);
            }
            Check.sentence("promise 28: -1");
            for (int i : NO_PLACES) {
                for (int kind = 0; kind < 4; kind++) {
                    Check.due(n + ": fills(" + kind + ", " + i + ")", whole.fills(kind, i), -1);
                }
            }
        }
        Check.sentence("promise 28: -3 n is odd");
        for (int n = 1; n <= 11; n += 2) {
            for (int kind = 0; kind < 4; kind++) {
                Check.due(n + ": fills(" + kind + ", 0)", Check.rising(n, n).fills(kind, 0), -3);
            }
        }
    }

    private static void fillsTwoRefusals() {
        for (int n = 1; n <= 12; n++) {
            RowClasses whole = Check.rising(n, n);
            RowClasses part = Check.rising(n, n - 1);
            for (int kind : NO_FORM_KINDS) {
                Check.sentence("promise 28: -2 kind before -3 not WHOLE");
                Check.due(n + ": fills(" + kind + ", 0) of a part", part.fills(kind, 0), -2);
                Check.sentence("promise 28: -2 kind before -3 n is odd, before -1");
                Check.due(n + ": fills(" + kind + ", 0)", whole.fills(kind, 0), -2);
                Check.due(n + ": fills(" + kind + ", -1)", whole.fills(kind, -1), -2);
                Check.due(n + ": fills(" + kind + ", 12)", whole.fills(kind, 12), -2);
            }
            for (int i : NO_PLACES) {
                Check.sentence("promise 28: -3 not WHOLE before -1");
                Check.due(n + ": fills(0, " + i + ") of a part", part.fills(0, i), -3);
                Check.sentence("promise 28: -3 n is odd before -1");
                Check.due(n + ": fills(1, " + i + ")", whole.fills(1, i), n % 2 == 0 ? -1 : -3);
            }
        }
    }

    private static void derived() {
        Check.sentence("promise 29: Whether THE ROW is PIECES .. all in one CLASS of a KIND");
        RowClasses x = Check.row(12, WEBERN);
        Check.due("derived(3, 0)", x.derived(3, 0), 0);
        Check.due("derived(3, 1)", x.derived(3, 1), 1);
        Check.due("derived(3, 2)", x.derived(3, 2), 1);
        Check.due("derived(4, 2)", x.derived(4, 2), 0);
        // Half steps and fifths, which UNITS alone make of one another.
        RowClasses pairs = Check.row(12, 0, 1, 2, 7, 3, 8, 4, 9, 5, 6, 10, 11);
        Check.due("derived(2, 0)", pairs.derived(2, 0), 0);
        Check.due("derived(2, 1)", pairs.derived(2, 1), 0);
        Check.due("derived(2, 2)", pairs.derived(2, 2), 1);
        Check.due("6: derived(2, 0)", Check.row(6, 0, 1, 2, 3, 5, 4).derived(2, 0), 1);
        Check.due("9: derived(3, 0)", Check.row(9, 8, 0, 1, 2, 3, 4, 7, 6, 5).derived(3, 0), 1);
    }

    private static void derivedEachPiece() {
        Check.sentence("promise 29: one behind the other, the first, the last and those between");
        Check.due("6: the last is unlike", Check.row(6, 0, 2, 3, 5, 1, 4).derived(2, 2), 0);
        Check.due("6: the first is unlike", Check.row(6, 1, 4, 0, 2, 3, 5).derived(2, 2), 0);
        Check.due("6: that between", Check.row(6, 0, 2, 1, 4, 3, 5).derived(2, 2), 0);
        // 5 and 0 across the end are no PIECE, nor are 1 and 2.
        Check.due("6: derived(2, 0)", Check.row(6, 0, 1, 3, 2, 4, 5).derived(2, 0), 1);
        Check.due("6: derived(3, 1)", Check.row(6, 0, 1, 3, 2, 4, 5).derived(3, 1), 1);
        Check.due("6: derived(3, 0)", Check.row(6, 0, 1, 3, 2, 4, 5).derived(3, 0), 0);
    }

    private static void derivedOfOneAndAll() {
        Check.sentence("promise 29: d is 1 and n");
        for (int n = 1; n <= 12; n++) {
            RowClasses x = Check.rising(n, n);
            for (int kind = 0; kind <= 2; kind++) {
                Check.due(n + ": derived(1, " + kind + ")", x.derived(1, kind), 1);
                Check.due(n + ": derived(n, " + kind + ")", x.derived(n, kind), 1);
            }
        }
    }

    private static void derivedBounds() {
        for (int n = 1; n <= 12; n++) {
            RowClasses whole = Check.rising(n, n);
            Check.sentence("promise 29: -2 kind");
            for (int kind : NO_KINDS) {
                Check.due(n + ": derived(1, " + kind + ")", whole.derived(1, kind), -2);
                Check.due(n + ": derived(n, " + kind + ")", whole.derived(n, kind), -2);
            }
            Check.sentence("promise 29: -2 d is not 1 .. n");
            for (int d : new int[] {0, -1, -n, n + 1, 2 * n, LEAST, LEAST + 1, GREATEST}) {
                Check.due(n + ": derived(" + d + ", 0)", whole.derived(d, 0), -2);
            }
            for (int d = 1; d <= n; d++) {
                Check.sentence("promise 29: -2 d .. does not divide n");
                Check.due(n + ": derived(" + d + ", 0)", whole.derived(d, 0),
                        n % d == 0 ? 1 : -2);
            }
            Check.sentence("promise 29: -3");
            for (int length = 0; length < n; length++) {
                RowClasses part = Check.rising(n, length);
                Check.due(n + ": derived(1, 0) of " + length, part.derived(1, 0), -3);
                Check.due(n + ": derived(n, 2) of " + length, part.derived(n, 2), -3);
            }
        }
    }

    private static void derivedTwoRefusals() {
        for (int n = 1; n <= 12; n++) {
            RowClasses part = Check.rising(n, n - 1);
            Check.sentence("promise 29: -2 kind before -3");
            for (int kind : NO_KINDS) {
                Check.due(n + ": derived(1, " + kind + ")", part.derived(1, kind), -2);
            }
            Check.sentence("promise 29: -2 d is not 1 .. n before -3");
            for (int d : new int[] {0, -1, n + 1, LEAST, GREATEST}) {
                Check.due(n + ": derived(" + d + ", 1)", part.derived(d, 1), -2);
            }
            Check.sentence("promise 29: -2 d does not divide n before -3");
            for (int d = 1; d <= n; d++) {
                Check.due(n + ": derived(" + d + ", 2)", part.derived(d, 2),
                        n % d == 0 ? -3 : -2);
            }
            Check.sentence("promise 29: -2 kind, d");
            Check.due(n + ": derived(0, 3)", part.derived(0, 3), -2);
            Check.due(n + ": derived(0, -1)", Check.rising(n, n).derived(0, -1), -2);
        }
    }

    private static void kept() {
        Check.sentence("promise 30: How many PIECES of d STEPS of THE ROW are PIECES of a FORM");
        RowClasses x = Check.rising(12, 12);
        for (int d = 1; d <= 12; d++) {
            Check.due("kept(0, 0, " + d + ")", x.kept(0, 0, d), 13 - d);
            Check.due("kept(2, 0, " + d + ")", x.kept(2, 0, d), 13 - d);
            Check.due("kept(3, 0, " + d + ") begins with 1",
                    x.kept(3, 0, d), d == 1 || d == 12 ? 13 - d : 12 - d);
        }
        // From 6 on: what goes round its end is no PIECE of it, or of THE ROW.
        Check.due("kept(0, 6, 6)", x.kept(0, 6, 6), 2);
        Check.due("kept(0, 6, 7)", x.kept(0, 6, 7), 0);
        Check.due("kept(0, 11, 11)", x.kept(0, 11, 11), 1);
        Check.due("kept(0, 11, 10)", x.kept(0, 11, 10), 2);
        Check.due("5: kept(1, 3, 2)", Check.row(5, 3, 1, 0, 2, 4).kept(1, 3, 2), 2);
    }

    private static void keptOfOneAndAll() {
        Check.sentence("promise 30: d is 1 and n, t is 0 and n - 1");
        for (int n = 1; n <= 12; n++) {
            RowClasses x = Check.rising(n, n);
            for (int kind = 0; kind < 4; kind++) {
                for (int t : new int[] {0, n - 1}) {
                    String of = n + ": kept(" + kind + ", " + t + ", ";
                    Check.due(of + "1)", x.kept(kind, t, 1), n);
                    Check.due(of + "n)", x.kept(kind, t, n), 1);
                }
            }
        }
    }

    private static void keptBounds() {
        for (int n = 1; n <= 12; n++) {
            RowClasses whole = Check.rising(n, n);
            Check.sentence("promise 30: -2 kind");
            for (int kind : NO_FORM_KINDS) {
                Check.due(n + ": kept(" + kind + ", 0, 1)", whole.kept(kind, 0, 1), -2);
            }
            Check.sentence("promise 30: -2 t");
            for (int t : noStepsOf(n)) {
                Check.due(n + ": kept(0, " + t + ", 1)", whole.kept(0, t, 1), -2);
            }
            Check.sentence("promise 30: -2 d is not 1 .. n");
            for (int d : new int[] {0, -1, n + 1, -n, LEAST, LEAST + 1, GREATEST}) {
                Check.due(n + ": kept(0, 0, " + d + ")", whole.kept(0, 0, d), -2);
                Check.due(n + ": kept(3, 0, " + d + ")", whole.kept(3, 0, d), -2);
            }
            Check.sentence("promise 30: -3");
            for (int length = 0; length < n; length++) {
                RowClasses part = Check.rising(n, length);
                Check.due(n + ": kept(0, 0, 1) of " + length, part.kept(0, 0, 1), -3);
                Check.due(n + ": kept(3, n - 1, n) of " + length, part.kept(3, n - 1, n), -3);
            }
        }
    }

    private static void keptTwoRefusals() {
        for (int n = 1; n <= 12; n++) {
            RowClasses part = Check.rising(n, n - 1);
            RowClasses whole = Check.rising(n, n);
            Check.sentence("promise 30: -2 kind before -3");
            for (int kind : NO_FORM_KINDS) {
                Check.due(n + ": kept(" + kind + ", 0, 1)", part.kept(kind, 0, 1), -2);
            }
            Check.sentence("promise 30: -2 t before -3");
            for (int t : noStepsOf(n)) {
                Check.due(n + ": kept(0, " + t + ", 1)", part.kept(0, t, 1), -2);
            }
            Check.sentence("promise 30: -2 d before -3");
            for (int d : new int[] {0, -1, n + 1, LEAST, GREATEST}) {
                Check.due(n + ": kept(0, 0, " + d + ")", part.kept(0, 0, d), -2);
            }
            Check.sentence("promise 30: -2 (any two)");
            Check.due(n + ": kept(4, n, 1)", whole.kept(4, n, 1), -2);
            Check.due(n + ": kept(4, 0, 0)", whole.kept(4, 0, 0), -2);
            Check.due(n + ": kept(0, n, 0)", whole.kept(0, n, 0), -2);
        }
    }

    private static void refusalsChangeNothing() {
        Check.sentence("promises 28 to 30: a REFUSAL changes nothing");
        for (int n = 1; n <= 12; n++) {
            for (int length : new int[] {0, n - 1, n}) {
                RowClasses x = Check.rising(n, length);
                RowClasses untold = Check.rising(n, length);
                x.fills(4, 0);
                x.fills(0, -1);
                x.fills(0, 12);
                x.derived(1, 3);
                x.derived(n + 1, 0);
                x.derived(0, 0);
                x.kept(-1, 0, 1);
                x.kept(0, n, 1);
                x.kept(0, 0, n + 1);
                Check.same(n + ": the state", Check.state(x), Check.state(untold));
            }
        }
    }
}
