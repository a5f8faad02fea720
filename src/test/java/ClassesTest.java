/** Promises 3 to 6: least, size, classes, nth. */
public final class ClassesTest {
    private static final int[] NO_KINDS =
            {-1, 3, 4, Integer.MIN_VALUE, Integer.MIN_VALUE + 1, Integer.MAX_VALUE};
    /** By KIND, number of STEPS of a SET, for 12 STEPS. */
    private static final int[][] OF_TWELVE = {
        {1, 1, 6, 19, 43, 66, 80, 66, 43, 19, 6, 1, 1},
        {1, 1, 6, 12, 29, 38, 50, 38, 29, 12, 6, 1, 1},
        {1, 1, 5, 9, 21, 25, 34, 25, 21, 9, 5, 1, 1},
    };

    public static void main(String[] args) {
        least();
        leastOfNoneAndAll();
        leastBounds();
        size();
        sizeOfNoneAndAll();
        sizeBounds();
        classes();
        classesOfNoneAndAll();
        classesBounds();
        nth();
        nthEnds();
        nthBounds();
        nthTwoRefusals();
        refusalsChangeNothing();
        Check.end("ClassesTest");
    }

    private static int[] noSets(int n) {
        return new int[] {-1, 1 << n, (1 << n) + 1, Integer.MIN_VALUE, Integer.MIN_VALUE + 1,
            Integer.MAX_VALUE, Integer.MAX_VALUE - 1};
    }

    private static int[] noSizes(int n) {
        return new int[] {-1, n + 1, -n - 1, Integer.MIN_VALUE, Integer.MAX_VALUE};
    }

    private static void least() {
        Check.sentence("promise 3: The CLASS of a SET");
        RowClasses x = new RowClasses();
        int major = Check.set(2, 6, 9);
        Check.due("least(major, 0)", x.least(major, 0), Check.set(0, 4, 7));
        Check.due("least(major, 1)", x.least(major, 1), Check.set(0, 3, 7));
        // 0 4 7 multiplied by 7 is 0 4 1; 0 3 7 by 7 is 0 9 1, turned by 3 it is 3 0 4.
        Check.due("least(major, 2)", x.least(major, 2), Check.set(0, 1, 4));
        // A scale of fifths is a row of half steps, multiplied by 7.
        Check.due("least(2741, 2)", x.least(2741, 2), 127);
        // What lies across the end of the bits is less when it is turned.
        Check.due("least(11 0 1, 0)", x.least(Check.set(11, 0, 1), 0), 7);
        Check.due("5: least(4 0, 0)", Check.circle(5).least(Check.set(4, 0), 0), 3);
    }

    private static void leastOfNoneAndAll() {
        Check.sentence("promise 3: the CLASS of the empty SET, of one STEP and of all STEPS");
        for (int n = 1; n <= 12; n++) {
            for (int kind = 0; kind <= 2; kind++) {
                RowClasses x = Check.circle(n);
                int all = Check.all(n);
                Check.due(n + ": least(0, " + kind + ")", x.least(0, kind), 0);
                Check.due(n + ": least(all, " + kind + ")", x.least(all, kind), all);
                Check.due(n + ": least(n - 1, " + kind + ")", x.least(1 << (n - 1), kind), 1);
                Check.due(n + ": least(all but 0, " + kind + ")",
                        x.least(all - 1, kind), all >> 1);
            }
        }
    }

    private static void leastBounds() {
        for (int n = 1; n <= 12; n++) {
            RowClasses x = Check.circle(n);
            Check.sentence("promise 3: -2 (the SET)");
            for (int set : noSets(n)) {
                Check.due(n + ": least(" + set + ", 0)", x.least(set, 0), -2);
            }
            Check.sentence("promise 3: -2 (the KIND)");
            for (int kind : NO_KINDS) {
                Check.due(n + ": least(1, " + kind + ")", x.least(1, kind), -2);
                Check.due(n + ": least(0, " + kind + ")", x.least(0, kind), -2);
            }
            Check.sentence("promise 3: -2 (both)");
            Check.due(n + ": least(-1, 3)", x.least(-1, 3), -2);
            Check.due(n + ": least(2^n, -1)", x.least(1 << n, -1), -2);
        }
    }

    private static void size() {
        Check.sentence("promise 4: How many SETS its CLASS has");
        RowClasses x = new RowClasses();
        Check.due("size(major, 0)", x.size(145, 0), 12);
        Check.due("size(major, 1)", x.size(145, 1), 24);
        Check.due("size(major, 2)", x.size(145, 2), 48);
        for (int kind = 0; kind <= 2; kind++) {
            Check.due("size(0 3 6 9, " + kind + ")", x.size(Check.set(0, 3, 6, 9), kind), 3);
            Check.due("size(1 5 9, " + kind + ")", x.size(Check.set(1, 5, 9), kind), 4);
            Check.due("size(1 7, " + kind + ")", x.size(Check.set(1, 7), kind), 6);
            Check.due("size(whole steps, " + kind + ")", x.size(1365, kind), 2);
        }
        // All pairs of 11 STEPS are one CLASS by UNITS.
        Check.due("11: size(3, 2)", Check.circle(11).size(3, 2), 55);
        Check.due("11: size(11, 2)", Check.circle(11).size(11, 2), 110);
    }

    private static void sizeOfNoneAndAll() {
        Check.sentence("promise 4: of the empty SET, of one STEP and of all STEPS");
        for (int n = 1; n <= 12; n++) {
            for (int kind = 0; kind <= 2; kind++) {
                RowClasses x = Check.circle(n);
                Check.due(n + ": size(0, " + kind + ")", x.size(0, kind), 1);
                Check.due(n + ": size(all, " + kind + ")", x.size(Check.all(n), kind), 1);
                Check.due(n + ": size(n - 1, " + kind + ")", x.size(1 << (n - 1), kind), n);
                Check.due(n + ": size(all but 0, " + kind + ")",
                        x.size(Check.all(n) - 1, kind), n);
            }
        }
    }

    private static void sizeBounds() {
        for (int n = 1; n <= 12; n++) {
            RowClasses x = Check.circle(n);
            Check.sentence("promise 4: -2 (the SET)");
            for (int set : noSets(n)) {
                Check.due(n + ": size(" + set + ", 0)", x.size(set, 0), -2);
            }
            Check.sentence("promise 4: -2 (the KIND)");
            for (int kind : NO_KINDS) {
                Check.due(n + ": size(1, " + kind + ")", x.size(1, kind), -2);
                Check.due(n + ": size(0, " + kind + ")", x.size(0, kind), -2);
            }
            Check.sentence("promise 4: -2 (both)");
            Check.due(n + ": size(-1, 3)", x.size(-1, 3), -2);
        }
    }

    private static void classes() {
        Check.sentence("promise 5: How many CLASSES have SETS of k STEPS");
        int[][] ofSeven = {{1, 1, 3, 5, 5, 3, 1, 1}, {1, 1, 3, 4, 4, 3, 1, 1},
            {1, 1, 1, 2, 2, 1, 1, 1}};
        RowClasses x = new RowClasses();
        RowClasses seven = Check.circle(7);
        for (int kind = 0; kind <= 2; kind++) {
            for (int k = 0; k <= 12; k++) {
                Check.due("classes(" + k + ", " + kind + ")",
                        x.classes(k, kind), OF_TWELVE[kind][k]);
            }
            for (int k = 0; k <= 7; k++) {
                Check.due("7: classes(" + k + ", " + kind + ")",
                        seven.classes(k, kind), ofSeven[kind][k]);
            }
        }
    }

    private static void classesOfNoneAndAll() {
        Check.sentence("promise 5: k is 0, 1, n - 1 and n");
        for (int n = 1; n <= 12; n++) {
            for (int kind = 0; kind <= 2; kind++) {
                RowClasses x = Check.circle(n);
                for (int k : new int[] {0, 1, n - 1, n}) {
                    Check.due(n + ": classes(" + k + ", " + kind + ")", x.classes(k, kind), 1);
                }
            }
        }
    }

    private static void classesBounds() {
        for (int n = 1; n <= 12; n++) {
            RowClasses x = Check.circle(n);
            Check.sentence("promise 5: -2 k is not 0 .. n");
            for (int k : noSizes(n)) {
                Check.due(n + ": classes(" + k + ", 0)", x.classes(k, 0), -2);
                Check.due(n + ": classes(" + k + ", 2)", x.classes(k, 2), -2);
            }
            Check.sentence("promise 5: -2 kind");
            for (int kind : NO_KINDS) {
                Check.due(n + ": classes(0, " + kind + ")", x.classes(0, kind), -2);
                Check.due(n + ": classes(n, " + kind + ")", x.classes(n, kind), -2);
            }
            Check.sentence("promise 5: -2 (both)");
            Check.due(n + ": classes(-1, -1)", x.classes(-1, -1), -2);
        }
    }

    private static void nth() {
        Check.sentence("promise 6: The i-th of these, from 0, the least first");
        RowClasses x = new RowClasses();
        int[][] pairs = {{3, 5, 9, 17, 33, 65}, {3, 5, 9, 17, 33, 65}, {3, 5, 9, 17, 65}};
        for (int kind = 0; kind <= 2; kind++) {
            for (int i = 0; i < pairs[kind].length; i++) {
                Check.due("nth(2, " + kind + ", " + i + ")", x.nth(2, kind, i), pairs[kind][i]);
            }
            Check.due("nth(2, " + kind + ", " + pairs[kind].length + ")",
                    x.nth(2, kind, pairs[kind].length), -1);
        }
        for (int kind = 0; kind <= 2; kind++) {
            RowClasses y = new RowClasses();
            for (int i = 1; i < OF_TWELVE[kind][6]; i++) {
                Check.holds("nth(6, " + kind + ", " + i + ") is greater than the one before",
                        y.nth(6, kind, i) > y.nth(6, kind, i - 1));
            }
        }
        Check.due("7: nth(3, 2, 1)", Check.circle(7).nth(3, 2, 1), Check.set(0, 1, 3));
    }

    private static void nthEnds() {
        Check.sentence("promise 6: the first place and the last one, and -1 beside them");
        RowClasses x = new RowClasses();
        int[] lasts = {0, 1, 65, 273, 585, 661, 1365, 1387, 1755, 1911, 2015, 2047, 4095};
        for (int kind = 0; kind <= 2; kind++) {
            for (int k = 0; k <= 12; k++) {
                int last = OF_TWELVE[kind][k] - 1;
                String of = "nth(" + k + ", " + kind + ", ";
                Check.due(of + "-1)", x.nth(k, kind, -1), -1);
                Check.due(of + "0)", x.nth(k, kind, 0), Check.all(k));
                // By UNITS the scales of fifths are in the CLASSES of rows of half steps.
                boolean fifths = kind == 2 && (k == 5 || k == 7);
                Check.due(of + last + ")", x.nth(k, kind, last),
                        !fifths ? lasts[k] : k == 5 ? 587 : 1367);
                Check.due(of + (last + 1) + ")", x.nth(k, kind, last + 1), -1);
                Check.due(of + "least)", x.nth(k, kind, Integer.MIN_VALUE), -1);
                Check.due(of + "greatest)", x.nth(k, kind, Integer.MAX_VALUE), -1);
            }
        }
        for (int n = 1; n <= 12; n++) {
            Check.due(n + ": nth(0, 0, 0)", Check.circle(n).nth(0, 0, 0), 0);
            Check.due(n + ": nth(0, 0, 1)", Check.circle(n).nth(0, 0, 1), -1);
            Check.due(n + ": nth(n, 0, 0)", Check.circle(n).nth(n, 0, 0), Check.all(n));
            Check.due(n + ": nth(n, 0, 1)", Check.circle(n).nth(n, 0, 1), -1);
        }
    }

    private static void nthBounds() {
        for (int n = 1; n <= 12; n++) {
            RowClasses x = Check.circle(n);
            Check.sentence("promise 6: -2 k");
            for (int k : noSizes(n)) {
                Check.due(n + ": nth(" + k + ", 0, 0)", x.nth(k, 0, 0), -2);
            }
            Check.sentence("promise 6: -2 kind");
            for (int kind : NO_KINDS) {
                Check.due(n + ": nth(1, " + kind + ", 0)", x.nth(1, kind, 0), -2);
            }
        }
    }

    private static void nthTwoRefusals() {
        int[] noPlaces = {-1, 1, Integer.MIN_VALUE, Integer.MAX_VALUE};
        for (int n = 1; n <= 12; n++) {
            RowClasses x = Check.circle(n);
            for (int i : noPlaces) {
                Check.sentence("promise 6: -2 k before -1");
                Check.due(n + ": nth(-1, 0, " + i + ")", x.nth(-1, 0, i), -2);
                Check.due(n + ": nth(n + 1, 0, " + i + ")", x.nth(n + 1, 0, i), -2);
                Check.sentence("promise 6: -2 kind before -1");
                Check.due(n + ": nth(n, -1, " + i + ")", x.nth(n, -1, i), -2);
                Check.due(n + ": nth(n, 3, " + i + ")", x.nth(n, 3, i), -2);
                Check.sentence("promise 6: -1");
                Check.due(n + ": nth(n, 2, " + i + ")", x.nth(n, 2, i), -1);
            }
            Check.sentence("promise 6: -2 k, kind");
            Check.due(n + ": nth(-1, 3, 0)", x.nth(-1, 3, 0), -2);
        }
    }

    private static void refusalsChangeNothing() {
        Check.sentence("promises 3 to 6: a REFUSAL changes nothing");
        for (int n = 1; n <= 12; n++) {
            for (int length : new int[] {0, n - 1, n}) {
                RowClasses x = Check.rising(n, length);
                RowClasses untold = Check.rising(n, length);
                x.least(-1, 0);
                x.least(0, 3);
                x.size(1 << n, 0);
                x.size(0, -1);
                x.classes(n + 1, 0);
                x.classes(0, 3);
                x.nth(-1, 0, 0);
                x.nth(0, 3, 0);
                x.nth(0, 0, 1);
                Check.due(n + ": classes", x.classes(n / 2, 0), untold.classes(n / 2, 0));
                Check.same(n + ": the state", Check.state(x), Check.state(untold));
            }
        }
    }
}
