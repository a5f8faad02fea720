/** Promises 10 to 14: vector, twin, others, multiplied, within. */
public final class SetsTest {
    private static final int LEAST = Integer.MIN_VALUE;
    private static final int GREATEST = Integer.MAX_VALUE;
    private static final int SCALE = 2741;

    public static void main(String[] args) {
        vector();
        vectorOfNoneAndAll();
        vectorBounds();
        twin();
        twinHasEveryNumberOfTheVector();
        twinThereIsNone();
        others();
        multiplied();
        multipliedByTheFirstAndTheLast();
        multipliedBounds();
        within();
        withinNoneAndAll();
        withinBounds();
        noSets();
        refusalsChangeNothing();
        Check.end("SetsTest");
    }

    private static int[] noSetsOf(int n) {
        return new int[] {-1, -Check.all(n), 1 << n, (1 << n) + 1, 1 << 13, LEAST, LEAST + 1,
            GREATEST - 1, GREATEST};
    }

    private static void vector() {
        Check.sentence("promise 10: THE VECTOR's number for d");
        int[] scale = {2, 5, 4, 3, 6, 1};
        int[] threes = {0, 0, 4, 0, 0, 2};
        RowClasses x = new RowClasses();
        for (int d = 1; d <= 6; d++) {
            Check.due("vector(scale, " + d + ")", x.vector(SCALE, d), scale[d - 1]);
            Check.due("vector(0 3 6 9, " + d + ")", x.vector(585, d), threes[d - 1]);
        }
        // 11 and 0 are 1 apart, not 11.
        Check.due("vector(0 11, 1)", x.vector(Check.set(0, 11), 1), 1);
        Check.due("7: vector(0 4, 3)", Check.circle(7).vector(Check.set(0, 4), 3), 1);
        Check.due("2: vector(0 1, 1)", Check.circle(2).vector(3, 1), 1);
        Check.due("3: vector(0 1 2, 1)", Check.circle(3).vector(7, 1), 3);
    }

    private static void vectorOfNoneAndAll() {
        Check.sentence("promise 10: of the empty SET, of one STEP and of all STEPS");
        for (int n = 2; n <= 12; n++) {
            RowClasses x = Check.circle(n);
            for (int d = 1; d <= n / 2; d++) {
                Check.due(n + ": vector(0, " + d + ")", x.vector(0, d), 0);
                Check.due(n + ": vector(1, " + d + ")", x.vector(1, d), 0);
                Check.due(n + ": vector(n - 1, " + d + ")", x.vector(1 << (n - 1), d), 0);
                // Half the circle apart each pair counts once.
                Check.due(n + ": vector(all, " + d + ")",
                        x.vector(Check.all(n), d), d * 2 == n ? n / 2 : n);
            }
        }
    }

    private static void vectorBounds() {
        for (int n = 1; n <= 12; n++) {
            RowClasses x = Check.circle(n);
            Check.sentence("promise 10: -2 d");
            for (int d : new int[] {0, -1, n / 2 + 1, n / 2 + 2, n, LEAST, GREATEST}) {
                if (d < 1 || d > n / 2) {
                    Check.due(n + ": vector(1, " + d + ")", x.vector(1, d), -2);
                    Check.due(n + ": vector(0, " + d + ")", x.vector(0, d), -2);
                }
            }
            Check.sentence("promise 10: -2 set, d");
            Check.due(n + ": vector(-1, 0)", x.vector(-1, 0), -2);
        }
    }

    private static void twin() {
        Check.sentence("promise 11: The least SET with as many STEPS and the same VECTOR");
        RowClasses x = new RowClasses();
        int one = Check.set(0, 1, 4, 6);
        int other = Check.set(0, 1, 3, 7);
        Check.due("twin(0 1 4 6)", x.twin(one), other);
        Check.due("twin(0 1 3 7)", x.twin(other), one);
        Check.due("twin(5 6 9 11)", x.twin(Check.set(5, 6, 9, 11)), other);
        Check.due("twin(0 2 5 6)", x.twin(Check.set(0, 2, 5, 6)), other);
        // Of 8 STEPS 0 1 2 5 and 0 1 3 4 are the only such pair.
        Check.due("8: twin(0 1 2 5)", Check.circle(8).twin(Check.set(0, 1, 2, 5)),
                Check.set(0, 1, 3, 4));
        Check.due("8: twin(0 1 3 4)", Check.circle(8).twin(Check.set(0, 1, 3, 4)),
                Check.set(0, 1, 2, 5));
        Check.due("10: twin(0 1 2 4 5)", Check.circle(10).twin(Check.set(0, 1, 2, 4, 5)),
                Check.set(0, 1, 2, 3, 6));
        Check.sentence("promise 11: that is not in its CLASS of KIND 1");
        // 0 3 7 has the VECTOR of 0 4 7, but MIRRORING makes it of that.
        Check.due("twin(0 3 7)", x.twin(Check.set(0, 3, 7)), -3);
        Check.due("twin(0 4 7)", x.twin(Check.set(0, 4, 7)), -3);
        Check.due("twin(0 1 3)", x.twin(Check.set(0, 1, 3)), -3);
    }

    private static void twinHasEveryNumberOfTheVector() {
        Check.sentence("promise 11: the same VECTOR, from its first number to its last one");
        for (int n = 2; n <= 12; n++) {
            for (int d = 1; d < n; d++) {
                // Pairs as far apart are one CLASS; of all others two numbers are unlike.
                Check.due(n + ": twin(0 " + d + ")", Check.circle(n).twin(1 | 1 << d), -3);
            }
        }
    }

    private static void twinThereIsNone() {
        Check.sentence("promise 11: -3, the empty SET, one STEP, all but one and all STEPS");
        for (int n = 1; n <= 12; n++) {
            RowClasses x = Check.circle(n);
            Check.due(n + ": twin(0)", x.twin(0), -3);
            Check.due(n + ": twin(1)", x.twin(1), -3);
            Check.due(n + ": twin(n - 1)", x.twin(1 << (n - 1)), -3);
            Check.due(n + ": twin(all but 0)", x.twin(Check.all(n) - 1), -3);
            Check.due(n + ": twin(all)", x.twin(Check.all(n)), -3);
        }
    }

    private static void others() {
        Check.sentence("promise 12: The SET of all other STEPS");
        RowClasses x = new RowClasses();
        Check.due("others(scale)", x.others(SCALE), Check.set(1, 3, 6, 8, 10));
        Check.due("5: others(9)", Check.circle(5).others(9), 22);
        for (int n = 1; n <= 12; n++) {
            RowClasses y = Check.circle(n);
            Check.due(n + ": others(0)", y.others(0), Check.all(n));
            Check.due(n + ": others(all)", y.others(Check.all(n)), 0);
            Check.due(n + ": others(all but 0)", y.others(Check.all(n) - 1), 1);
            Check.due(n + ": others(n - 1)", y.others(1 << (n - 1)), Check.all(n - 1));
        }
    }

    private static void multiplied() {
        Check.sentence("promise 13: It MULTIPLIED");
        RowClasses x = new RowClasses();
        int row = Check.set(0, 1, 2, 3);
        Check.due("multiplied(0 1 2 3, 5)", x.multiplied(row, 5), Check.set(0, 5, 10, 3));
        Check.due("multiplied(0 1 2 3, 6)", x.multiplied(row, 6), Check.set(0, 6));
        Check.due("multiplied(0 1 2 3, 7)", x.multiplied(row, 7), Check.set(0, 7, 2, 9));
        Check.due("multiplied(4 8, 3)", x.multiplied(Check.set(4, 8), 3), Check.set(0));
    }

    private static void multipliedByTheFirstAndTheLast() {
        Check.sentence("promise 13: by 0, by 1 and by n - 1");
        for (int n = 1; n <= 12; n++) {
            RowClasses x = Check.circle(n);
            int low = Check.set(0, 1) & Check.all(n);
            Check.due(n + ": multiplied(all, 0)", x.multiplied(Check.all(n), 0), 1);
            Check.due(n + ": multiplied(n - 1, 0)", x.multiplied(1 << (n - 1), 0), 1);
            Check.due(n + ": multiplied(0, 0)", x.multiplied(0, 0), 0);
            Check.due(n + ": multiplied(0, n - 1)", x.multiplied(0, n - 1), 0);
            Check.due(n + ": multiplied(all, n - 1)",
                    x.multiplied(Check.all(n), n - 1), Check.all(n));
            Check.due(n + ": multiplied(0 1, n - 1)", x.multiplied(low, n - 1), 1 | 1 << (n - 1));
            if (n > 1) {
                Check.due(n + ": multiplied(0 n-1, 1)",
                        x.multiplied(1 | 1 << (n - 1), 1), 1 | 1 << (n - 1));
            }
        }
    }

    private static void multipliedBounds() {
        Check.sentence("promise 13: -2 m is not 0 .. n - 1");
        for (int n = 1; n <= 12; n++) {
            RowClasses x = Check.circle(n);
            for (int m : new int[] {-1, n, n + 1, -n, LEAST, LEAST + 1, GREATEST}) {
                Check.due(n + ": multiplied(1, " + m + ")", x.multiplied(1, m), -2);
                Check.due(n + ": multiplied(0, " + m + ")", x.multiplied(0, m), -2);
            }
            Check.due(n + ": multiplied(-1, n)", x.multiplied(-1, n), -2);
        }
    }

    private static void within() {
        Check.sentence("promise 14: How many SETS of the CLASS of other have all their STEPS in set");
        RowClasses x = new RowClasses();
        int major = Check.set(2, 6, 9);
        Check.due("within(scale, major, 0)", x.within(SCALE, major, 0), 3);
        Check.due("within(scale, major, 1)", x.within(SCALE, major, 1), 6);
        Check.due("within(scale, fifth, 0)", x.within(SCALE, Check.set(3, 10), 0), 6);
        // By UNITS a fifth is a half step as well: 6 and 2 of them.
        Check.due("within(scale, fifth, 2)", x.within(SCALE, Check.set(3, 10), 2), 8);
        // It is the CLASS of other that lies in set: not the other way round.
        Check.due("within(major, scale, 0)", x.within(major, SCALE, 0), 0);
        // Each SET counts once, however many turns make it.
        Check.due("within(all, 0 3 6 9, 1)", x.within(4095, 585, 1), 3);
        Check.due("within(0 3 6 9, 1 7, 0)", x.within(585, Check.set(1, 7), 0), 2);
        Check.due("within(0 3 6 9, 2 5 8 11, 0)", x.within(585, 585 << 2, 0), 1);
    }

    private static void withinNoneAndAll() {
        Check.sentence("promise 14: the empty SET, one STEP and the SET of all STEPS");
        for (int n = 1; n <= 12; n++) {
            for (int kind = 0; kind <= 2; kind++) {
                RowClasses x = Check.circle(n);
                int all = Check.all(n);
                String of = n + ", kind " + kind + ": within";
                Check.due(of + "(0, 0)", x.within(0, 0, kind), 1);
                Check.due(of + "(all, 0)", x.within(all, 0, kind), 1);
                Check.due(of + "(0, 1)", x.within(0, 1, kind), 0);
                Check.due(of + "(0, all)", x.within(0, all, kind), 0);
                Check.due(of + "(all, all)", x.within(all, all, kind), 1);
                Check.due(of + "(all, n - 1)", x.within(all, 1 << (n - 1), kind), n);
                Check.due(of + "(all but 0, 1)", x.within(all - 1, 1, kind), n - 1);
                Check.due(of + "(all but 0, all)", x.within(all - 1, all, kind), 0);
            }
        }
    }

    private static void withinBounds() {
        for (int n = 1; n <= 12; n++) {
            RowClasses x = Check.circle(n);
            Check.sentence("promise 14: -2 (the KIND)");
            for (int kind : new int[] {-1, 3, LEAST, GREATEST}) {
                Check.due(n + ": within(1, 1, " + kind + ")", x.within(1, 1, kind), -2);
                Check.due(n + ": within(0, 0, " + kind + ")", x.within(0, 0, kind), -2);
            }
            Check.sentence("promise 14: -2 (any two)");
            Check.due(n + ": within(-1, -1, 0)", x.within(-1, -1, 0), -2);
            Check.due(n + ": within(-1, 0, 3)", x.within(-1, 0, 3), -2);
            Check.due(n + ": within(0, 2^n, 3)", x.within(0, 1 << n, 3), -2);
        }
    }

    private static void noSets() {
        for (int n = 1; n <= 12; n++) {
            RowClasses x = Check.circle(n);
            for (int set : noSetsOf(n)) {
                String of = n + ": (" + set + ")";
                Check.sentence("promise 10: -2 set");
                Check.due("vector" + of, x.vector(set, 1), -2);
                Check.sentence("promise 11: -2");
                Check.due("twin" + of, x.twin(set), -2);
                Check.sentence("promise 12: -2");
                Check.due("others" + of, x.others(set), -2);
                Check.sentence("promise 13: -2 set");
                Check.due("multiplied" + of, x.multiplied(set, 0), -2);
                Check.sentence("promise 14: -2 (the SET)");
                Check.due("within" + of, x.within(set, 0, 0), -2);
                Check.sentence("promise 14: -2 (the other SET)");
                Check.due("within, other" + of, x.within(0, set, 0), -2);
            }
        }
    }

    private static void refusalsChangeNothing() {
        Check.sentence("promises 10 to 14: a REFUSAL changes nothing");
        for (int n = 1; n <= 12; n++) {
            for (int length : new int[] {0, n - 1, n}) {
                RowClasses x = Check.rising(n, length);
                RowClasses untold = Check.rising(n, length);
                x.vector(-1, 1);
                x.vector(1, 0);
                x.twin(1 << n);
                x.twin(1);
                x.others(-1);
                x.multiplied(1, n);
                x.multiplied(-1, 0);
                x.within(-1, 0, 0);
                x.within(0, -1, 0);
                x.within(0, 0, 3);
                Check.due(n + ": twin", x.twin(Check.all(n) >> 1), untold.twin(Check.all(n) >> 1));
                Check.same(n + ": the state", Check.state(x), Check.state(untold));
            }
        }
    }
}
