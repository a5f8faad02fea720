/** Promises 10 to 20: vector, twin, others, multiplied, within, common, best, keeps, .. generator. */
public final class SetsTest {
    private static final int[] NO_SETS = {-1, 4096, Integer.MIN_VALUE, Integer.MAX_VALUE};
    private static final int[] NO_STEPS = {-1, 12, Integer.MIN_VALUE, Integer.MAX_VALUE};
    private static final int SCALE = 2741;

    private static final RowClasses X = new RowClasses();

    public static void main(String[] args) {
        vector();
        twin();
        others();
        multiplied();
        within();
        common();
        best();
        keeps();
        even();
        spread();
        generator();
        noSets();
        noSteps();
        Check.end("SetsTest");
    }

    private static void vector() {
        int[] scale = {2, 5, 4, 3, 6, 1};
        int[] all = {12, 12, 12, 12, 12, 6};
        for (int d = 1; d <= 6; d++) {
            Check.due("vector(scale, " + d + ")", X.vector(SCALE, d), scale[d - 1]);
            Check.due("vector(all, " + d + ")", X.vector(4095, d), all[d - 1]);
            Check.due("vector(0, " + d + ")", X.vector(0, d), 0);
            Check.due("vector(1, " + d + ")", X.vector(1, d), 0);
        }
        Check.due("7: vector(127, 3)", Check.circle(7).vector(127, 3), 7);
        Check.due("2: vector(3, 1)", Check.circle(2).vector(3, 1), 1);
        for (int d : new int[] {0, -1, 7, Integer.MIN_VALUE, Integer.MAX_VALUE}) {
            Check.due("vector(scale, " + d + ")", X.vector(SCALE, d), -2);
        }
        Check.due("7: vector(127, 4)", Check.circle(7).vector(127, 4), -2);
        Check.due("1: vector(1, 1)", Check.circle(1).vector(1, 1), -2);
    }

    private static void twin() {
        int one = Check.set(0, 1, 4, 6);
        int other = Check.set(0, 1, 3, 7);
        Check.due("twin(0 1 4 6)", X.twin(one), other);
        Check.due("twin(0 1 3 7)", X.twin(other), one);
        Check.due("twin(0 1 4 6 by 5)", X.twin(Check.set(5, 6, 9, 11)), other);
        Check.due("twin(0 2 5 6)", X.twin(Check.set(0, 2, 5, 6)), other);
        Check.due("twin(0 4 7)", X.twin(145), -3);
        Check.due("twin(0)", X.twin(0), -3);
        Check.due("twin(4095)", X.twin(4095), -3);
        // Of 8 STEPS 0 1 2 5 and 0 1 3 4 are the only such pair.
        Check.due("8: twin(0 1 2 5)", Check.circle(8).twin(Check.set(0, 1, 2, 5)),
                Check.set(0, 1, 3, 4));
        Check.due("8: twin(0 1 3 4)", Check.circle(8).twin(Check.set(0, 1, 3, 4)),
                Check.set(0, 1, 2, 5));
        Check.due("1: twin(1)", Check.circle(1).twin(1), -3);
        Check.due("1: twin(0)", Check.circle(1).twin(0), -3);
        Check.due("7: twin(128)", Check.circle(7).twin(128), -2);
    }

    private static void others() {
        Check.due("others(0)", X.others(0), 4095);
        Check.due("others(4095)", X.others(4095), 0);
        Check.due("others(scale)", X.others(SCALE), Check.set(1, 3, 6, 8, 10));
        Check.due("5: others(9)", Check.circle(5).others(9), 22);
        Check.due("5: others(32)", Check.circle(5).others(32), -2);
    }

    private static void multiplied() {
        int row = Check.set(0, 1, 2, 3);
        Check.due("multiplied(0 1 2 3, 0)", X.multiplied(row, 0), 1);
        Check.due("multiplied(0 1 2 3, 1)", X.multiplied(row, 1), row);
        Check.due("multiplied(0 1 2 3, 5)", X.multiplied(row, 5), Check.set(0, 5, 10, 3));
        Check.due("multiplied(0 1 2 3, 6)", X.multiplied(row, 6), Check.set(0, 6));
        Check.due("multiplied(0 1 2 3, 11)", X.multiplied(row, 11), Check.set(0, 11, 10, 9));
        Check.due("multiplied(0, 0)", X.multiplied(0, 0), 0);
        Check.due("multiplied(11, 11)", X.multiplied(2048, 11), 2);
        Check.due("1: multiplied(1, 0)", Check.circle(1).multiplied(1, 0), 1);
        Check.due("1: multiplied(1, 1)", Check.circle(1).multiplied(1, 1), -2);
    }

    private static void within() {
        int major = Check.set(2, 6, 9);
        Check.due("within(scale, major, 0)", X.within(SCALE, major, 0), 3);
        Check.due("within(scale, major, 1)", X.within(SCALE, major, 1), 6);
        Check.due("within(scale, fifth, 0)", X.within(SCALE, Check.set(3, 10), 0), 6);
        // By UNITS a fifth is a half step as well: 6 and 2 of them.
        Check.due("within(scale, fifth, 2)", X.within(SCALE, Check.set(3, 10), 2), 8);
        Check.due("within(all, 0 3 6 9, 1)", X.within(4095, 585, 1), 3);
        Check.due("within(scale, 0, 2)", X.within(SCALE, 0, 2), 1);
        Check.due("within(0, 0, 0)", X.within(0, 0, 0), 1);
        Check.due("within(0, 1, 0)", X.within(0, 1, 0), 0);
        Check.due("within(1, all, 0)", X.within(1, 4095, 0), 0);
        Check.due("1: within(1, 1, 2)", Check.circle(1).within(1, 1, 2), 1);
        for (int kind : new int[] {-1, 3, Integer.MIN_VALUE, Integer.MAX_VALUE}) {
            Check.due("within(1, 1, " + kind + ")", X.within(1, 1, kind), -2);
        }
    }

    private static void common() {
        int one = Check.set(0, 1, 5);
        int other = Check.set(0, 4, 7);
        Check.due("common(0 1 5, 0 4 7, 0, false)", X.common(one, other, 0, false), 1);
        Check.due("common(0 1 5, 0 4 7, 1, false)", X.common(one, other, 1, false), 2);
        Check.due("common(0 1 5, 0 4 7, 8, false)", X.common(one, other, 8, false), 1);
        // MIRRORED it is 0 8 5; TURNED by 5 that is 5 1 10.
        Check.due("common(0 1 5, 0 4 7, 0, true)", X.common(one, other, 0, true), 2);
        Check.due("common(0 1 5, 0 4 7, 5, true)", X.common(one, other, 5, true), 2);
        Check.due("common(0 1 5, 0 4 7, 1, true)", X.common(one, other, 1, true), 1);
        Check.due("common(0, 0, 11, true)", X.common(0, 0, 11, true), 0);
        Check.due("common(1, 2, 11, false)", X.common(1, 2, 11, false), 1);
        Check.due("common(1, 2, 1, false)", X.common(1, 2, 1, false), 0);
        Check.due("common(1, 2, 1, true)", X.common(1, 2, 1, true), 1);
        Check.due("common(4, 1, 2, false)", X.common(4, 1, 2, false), 1);
    }

    private static void best() {
        Check.due("best(1, 2, false)", X.best(1, 2, false), 11);
        Check.due("best(1, 2, true)", X.best(1, 2, true), 1);
        Check.due("best(4, 1, false)", X.best(4, 1, false), 2);
        Check.due("best(scale, scale, false)", X.best(SCALE, SCALE, false), 0);
        Check.due("best(scale, scale, true)", X.best(SCALE, SCALE, true), 4);
        Check.due("best(0, scale, false)", X.best(0, SCALE, false), 0);
        Check.due("best(scale, 0, true)", X.best(SCALE, 0, true), 0);
        // As good with 1, 4, 7 and 10.
        Check.due("best(0 3 6 9, 2 5 8 11, false)", X.best(585, 585 << 2, false), 1);
        Check.due("1: best(1, 1, true)", Check.circle(1).best(1, 1, true), 0);
    }

    private static void keeps() {
        Check.due("keeps(0, false)", X.keeps(0, false), 12);
        Check.due("keeps(0, true)", X.keeps(0, true), 12);
        Check.due("keeps(4095, true)", X.keeps(4095, true), 12);
        Check.due("keeps(major, false)", X.keeps(145, false), 1);
        Check.due("keeps(major, true)", X.keeps(145, true), 0);
        Check.due("keeps(scale, false)", X.keeps(SCALE, false), 1);
        Check.due("keeps(scale, true)", X.keeps(SCALE, true), 1);
        Check.due("keeps(0 1 6 7, false)", X.keeps(Check.set(0, 1, 6, 7), false), 2);
        // Kept by turns, by no mirror.
        Check.due("keeps(0 1 3 6 7 9, false)", X.keeps(Check.set(0, 1, 3, 6, 7, 9), false), 2);
        Check.due("keeps(0 1 3 6 7 9, true)", X.keeps(Check.set(0, 1, 3, 6, 7, 9), true), 0);
        Check.due("1: keeps(1, true)", Check.circle(1).keeps(1, true), 1);
    }

    private static void even() {
        Check.due("even(0)", X.even(0), 0);
        Check.due("even(32)", X.even(32), 1);
        Check.due("even(4095)", X.even(4095), 1);
        Check.due("even(scale)", X.even(SCALE), 1);
        Check.due("even(the rest of it)", X.even(4095 - SCALE), 1);
        Check.due("even(0 6)", X.even(Check.set(0, 6)), 1);
        Check.due("even(0 5)", X.even(Check.set(0, 5)), 0);
        Check.due("7: even(0 3)", Check.circle(7).even(Check.set(0, 3)), 1);
        Check.due("even(0 2 4 6 7 9 11)", X.even(Check.set(0, 2, 4, 6, 7, 9, 11)), 1);
        Check.due("even(0 2 3 5 7 8 11)", X.even(Check.set(0, 2, 3, 5, 7, 8, 11)), 0);
        // The ways to the next one are 1 and 2, to the second 3 and 4, to the third 4, 5 and 6.
        Check.due("even(0 2 3 5 7 9 11)", X.even(Check.set(0, 2, 3, 5, 7, 9, 11)), 0);
        Check.due("1: even(1)", Check.circle(1).even(1), 1);
        Check.due("1: even(0)", Check.circle(1).even(0), 0);
    }

    private static void spread() {
        Check.due("spread(7, 5)", X.spread(7, 5), SCALE);
        Check.due("spread(5, 0)", X.spread(5, 0), Check.set(0, 2, 4, 7, 9));
        Check.due("spread(12, 0)", X.spread(12, 0), 4095);
        Check.due("spread(12, 11)", X.spread(12, 11), 4095);
        Check.due("spread(1, 11)", X.spread(1, 11), 2048);
        Check.due("spread(4, 11)", X.spread(4, 11), Check.set(2, 5, 8, 11));
        Check.due("8: spread(3, 0)", Check.circle(8).spread(3, 0), Check.set(0, 2, 5));
        Check.due("1: spread(1, 0)", Check.circle(1).spread(1, 0), 1);
        for (int k : new int[] {0, -1, 13, Integer.MIN_VALUE, Integer.MAX_VALUE}) {
            Check.due("spread(" + k + ", 0)", X.spread(k, 0), -2);
        }
        Check.due("8: spread(9, 0)", Check.circle(8).spread(9, 0), -2);
        Check.due("8: spread(3, 8)", Check.circle(8).spread(3, 8), -2);
    }

    private static void generator() {
        Check.due("generator(scale)", X.generator(SCALE), 5);
        Check.due("generator(0)", X.generator(0), -3);
        Check.due("generator(256)", X.generator(256), 0);
        Check.due("generator(4095)", X.generator(4095), 1);
        Check.due("generator(0 4 8)", X.generator(Check.set(0, 4, 8)), 4);
        Check.due("generator(1 7)", X.generator(Check.set(1, 7)), 6);
        Check.due("generator(0 11)", X.generator(Check.set(0, 11)), 1);
        Check.due("generator(0 4 7)", X.generator(145), -3);
        Check.due("generator(0 2 4 6 8 10)", X.generator(1365), 2);
        Check.due("1: generator(1)", Check.circle(1).generator(1), 0);
        Check.due("1: generator(0)", Check.circle(1).generator(0), -3);
    }

    private static void noSets() {
        for (int set : NO_SETS) {
            String of = "(" + set + ")";
            Check.due("vector" + of, X.vector(set, 1), -2);
            Check.due("twin" + of, X.twin(set), -2);
            Check.due("others" + of, X.others(set), -2);
            Check.due("multiplied" + of, X.multiplied(set, 1), -2);
            Check.due("within" + of, X.within(set, 1, 0), -2);
            Check.due("within, other" + of, X.within(1, set, 0), -2);
            Check.due("common" + of, X.common(set, 1, 0, false), -2);
            Check.due("common, other" + of, X.common(1, set, 0, true), -2);
            Check.due("best" + of, X.best(set, 1, false), -2);
            Check.due("best, other" + of, X.best(1, set, true), -2);
            Check.due("keeps" + of, X.keeps(set, false), -2);
            Check.due("keeps, mirrored" + of, X.keeps(set, true), -2);
            Check.due("even" + of, X.even(set), -2);
            Check.due("generator" + of, X.generator(set), -2);
        }
    }

    private static void noSteps() {
        for (int step : NO_STEPS) {
            Check.due("multiplied(1, " + step + ")", X.multiplied(1, step), -2);
            Check.due("common(1, 1, " + step + ")", X.common(1, 1, step, false), -2);
            Check.due("spread(3, " + step + ")", X.spread(3, step), -2);
        }
    }
}
