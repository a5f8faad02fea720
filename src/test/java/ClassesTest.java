/** Promises 3 to 6: least, size, classes, nth. */
public final class ClassesTest {
    private static final int[] NO_KINDS = {-1, 3, Integer.MIN_VALUE, Integer.MAX_VALUE};
    private static final int[] NO_SETS = {-1, 4096, Integer.MIN_VALUE, Integer.MAX_VALUE};

    public static void main(String[] args) {
        least();
        leastRefused();
        size();
        sizeRefused();
        classes();
        classesRefused();
        nth();
        nthRefused();
        Check.end("ClassesTest");
    }

    private static void least() {
        RowClasses x = new RowClasses();
        int major = Check.set(2, 6, 9);
        Check.due("least(major, 0)", x.least(major, 0), Check.set(0, 4, 7));
        Check.due("least(major, 1)", x.least(major, 1), Check.set(0, 3, 7));
        // 0 4 7 multiplied by 7 is 0 4 1; 0 3 7 by 7 is 0 9 1, turned by 3 it is 3 0 4.
        Check.due("least(major, 2)", x.least(major, 2), Check.set(0, 1, 4));
        // A scale of fifths is a row of half steps, multiplied by 7.
        Check.due("least(2741, 2)", x.least(2741, 2), 127);
        for (int kind = 0; kind <= 2; kind++) {
            Check.due("least(0, " + kind + ")", x.least(0, kind), 0);
            Check.due("least(4095, " + kind + ")", x.least(4095, kind), 4095);
            Check.due("least(2048, " + kind + ")", x.least(2048, kind), 1);
            Check.due("1: least(1, " + kind + ")", Check.circle(1).least(1, kind), 1);
            Check.due("2: least(2, " + kind + ")", Check.circle(2).least(2, kind), 1);
        }
    }

    private static void leastRefused() {
        RowClasses x = new RowClasses();
        for (int set : NO_SETS) {
            Check.due("least(" + set + ", 0)", x.least(set, 0), -2);
        }
        for (int kind : NO_KINDS) {
            Check.due("least(1, " + kind + ")", x.least(1, kind), -2);
        }
        Check.due("7: least(128, 0)", Check.circle(7).least(128, 0), -2);
        Check.due("7: least(127, 0)", Check.circle(7).least(127, 0), 127);
    }

    private static void size() {
        RowClasses x = new RowClasses();
        int diminished = Check.set(0, 3, 6, 9);
        int augmented = Check.set(1, 5, 9);
        int wholeSteps = Check.set(0, 2, 4, 6, 8, 10);
        Check.due("size(major, 0)", x.size(145, 0), 12);
        Check.due("size(major, 1)", x.size(145, 1), 24);
        Check.due("size(major, 2)", x.size(145, 2), 48);
        for (int kind = 0; kind <= 2; kind++) {
            Check.due("size(0, " + kind + ")", x.size(0, kind), 1);
            Check.due("size(4095, " + kind + ")", x.size(4095, kind), 1);
            Check.due("size(1, " + kind + ")", x.size(1, kind), 12);
            Check.due("size(diminished, " + kind + ")", x.size(diminished, kind), 3);
            Check.due("size(augmented, " + kind + ")", x.size(augmented, kind), 4);
            Check.due("size(whole steps, " + kind + ")", x.size(wholeSteps, kind), 2);
            Check.due("1: size(1, " + kind + ")", Check.circle(1).size(1, kind), 1);
            Check.due("2: size(1, " + kind + ")", Check.circle(2).size(1, kind), 2);
        }
        // All pairs of 11 STEPS are one CLASS by UNITS.
        Check.due("11: size(3, 2)", Check.circle(11).size(3, 2), 55);
        Check.due("11: size(11, 2)", Check.circle(11).size(11, 2), 110);
    }

    private static void sizeRefused() {
        RowClasses x = new RowClasses();
        for (int set : NO_SETS) {
            Check.due("size(" + set + ", 0)", x.size(set, 0), -2);
        }
        for (int kind : NO_KINDS) {
            Check.due("size(1, " + kind + ")", x.size(1, kind), -2);
        }
        Check.due("3: size(8, 0)", Check.circle(3).size(8, 0), -2);
    }

    private static void classes() {
        int[][] due = {
            {1, 1, 6, 19, 43, 66, 80, 66, 43, 19, 6, 1, 1},
            {1, 1, 6, 12, 29, 38, 50, 38, 29, 12, 6, 1, 1},
            {1, 1, 5, 9, 21, 25, 34, 25, 21, 9, 5, 1, 1},
        };
        RowClasses x = new RowClasses();
        for (int kind = 0; kind <= 2; kind++) {
            for (int k = 0; k <= 12; k++) {
                Check.due("classes(" + k + ", " + kind + ")", x.classes(k, kind), due[kind][k]);
            }
            Check.due("1: classes(0, " + kind + ")", Check.circle(1).classes(0, kind), 1);
            Check.due("1: classes(1, " + kind + ")", Check.circle(1).classes(1, kind), 1);
            Check.due("1: classes(2, " + kind + ")", Check.circle(1).classes(2, kind), -2);
        }
    }

    private static void classesRefused() {
        RowClasses x = new RowClasses();
        for (int k : new int[] {-1, 13, Integer.MIN_VALUE, Integer.MAX_VALUE}) {
            Check.due("classes(" + k + ", 0)", x.classes(k, 0), -2);
        }
        for (int kind : NO_KINDS) {
            Check.due("classes(3, " + kind + ")", x.classes(3, kind), -2);
        }
        Check.due("7: classes(8, 0)", Check.circle(7).classes(8, 0), -2);
        Check.due("7: classes(7, 0)", Check.circle(7).classes(7, 0), 1);
    }

    private static void nth() {
        RowClasses x = new RowClasses();
        int[][] pairs = {{3, 5, 9, 17, 33, 65}, {3, 5, 9, 17, 33, 65}, {3, 5, 9, 17, 65}};
        for (int kind = 0; kind <= 2; kind++) {
            for (int i = 0; i < pairs[kind].length; i++) {
                Check.due("nth(2, " + kind + ", " + i + ")", x.nth(2, kind, i), pairs[kind][i]);
            }
            Check.due("nth(0, " + kind + ", 0)", x.nth(0, kind, 0), 0);
            Check.due("nth(12, " + kind + ", 0)", x.nth(12, kind, 0), 4095);
            Check.due("1: nth(1, " + kind + ", 0)", Check.circle(1).nth(1, kind, 0), 1);
        }
        Check.due("nth(3, 0, 18)", x.nth(3, 0, 18), Check.set(0, 4, 8));
        Check.due("7: nth(3, 2, 1)", Check.circle(7).nth(3, 2, 1), Check.set(0, 1, 3));
    }

    private static void nthRefused() {
        RowClasses x = new RowClasses();
        Check.due("nth(2, 0, -1)", x.nth(2, 0, -1), -1);
        Check.due("nth(2, 0, 6)", x.nth(2, 0, 6), -1);
        Check.due("nth(2, 2, 5)", x.nth(2, 2, 5), -1);
        Check.due("nth(0, 0, 1)", x.nth(0, 0, 1), -1);
        Check.due("nth(6, 0, least)", x.nth(6, 0, Integer.MIN_VALUE), -1);
        Check.due("nth(6, 0, greatest)", x.nth(6, 0, Integer.MAX_VALUE), -1);
        Check.due("nth(13, 0, -1)", x.nth(13, 0, -1), -2);
        Check.due("nth(-1, 0, 0)", x.nth(-1, 0, 0), -2);
        Check.due("nth(2, 3, -1)", x.nth(2, 3, -1), -2);
        Check.due("nth(2, -1, 0)", x.nth(2, -1, 0), -2);
    }
}
