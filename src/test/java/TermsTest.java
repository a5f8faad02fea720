/** "What it is" and "Terms": each sentence that names a bound, an end or a way round. */
public final class TermsTest {
    public static void main(String[] args) {
        steps();
        sumsGoRound();
        productsGoRound();
        sets();
        turnedAndMirrored();
        multipliedFallTogether();
        units();
        kinds();
        ordersGoRound();
        distances();
        ruleZero();
        ruleOne();
        normalOrderOfSeveral();
        primeFormIsTheLesser();
        vectorBounds();
        vectorByTheShorterWay();
        rowIsWholeWithN();
        formsFromTheEndOn();
        intervalsButTheLast();
        intervalsUpward();
        pieces();
        Check.end("TermsTest");
    }

    private static void steps() {
        Check.sentence("STEPS are 0 .. n - 1, n being 1 to 12");
        for (int n = 1; n <= 12; n++) {
            RowClasses x = new RowClasses();
            Check.due("steps(" + n + ")", x.steps(n), 12 % n);
            Check.due(n + ": others(0)", x.others(0), Check.all(n));
            Check.due(n + ": add(n)", x.add(n), -2);
            Check.due(n + ": add(-1)", x.add(-1), -2);
            Check.due(n + ": add(n - 1)", x.add(n - 1), 1);
            Check.due(n + ": add(0)", x.add(0), n == 1 ? -3 : 2);
        }
        Check.due("steps(13)", new RowClasses().steps(13), -2);
    }

    private static void sumsGoRound() {
        Check.sentence("sums of STEPS are modulo n");
        for (int n = 1; n <= 12; n++) {
            RowClasses x = Check.circle(n);
            int last = 1 << (n - 1);
            int beforeLast = 1 << ((2 * n - 2) % n);
            Check.due(n + ": n - 1 and 1 is 0", x.common(1, last, 1 % n, false), 1);
            Check.due(n + ": n - 1 and 0 is n - 1", x.common(last, last, 0, false), 1);
            Check.due(n + ": 0 and n - 1 is n - 1", x.common(last, 1, n - 1, false), 1);
            Check.due(n + ": n - 1 and n - 1 is n - 2",
                    x.common(beforeLast, last, n - 1, false), 1);
        }
    }

    private static void productsGoRound() {
        Check.sentence("products of STEPS are modulo n");
        for (int n = 2; n <= 12; n++) {
            RowClasses x = Check.circle(n);
            Check.due(n + ": n - 1 times n - 1 is 1", x.multiplied(1 << (n - 1), n - 1), 2);
            Check.due(n + ": 1 times n - 1 is n - 1", x.multiplied(2, n - 1), 1 << (n - 1));
        }
        Check.due("3 times 4 is 0", new RowClasses().multiplied(Check.set(3), 4), 1);
        Check.due("3 times 5 is 3", new RowClasses().multiplied(Check.set(3), 5), Check.set(3));
        Check.due("7: 3 times 5 is 1", Check.circle(7).multiplied(Check.set(3), 5), Check.set(1));
    }

    private static void sets() {
        Check.sentence("A SET is told by bits: 2^s for each of its STEPS s");
        for (int n = 1; n <= 12; n++) {
            RowClasses x = Check.circle(n);
            for (int s = 0; s < n; s++) {
                Check.due(n + ": others of " + s, x.others(1 << s), Check.all(n) - (1 << s));
            }
            Check.due(n + ": others of none", x.others(0), Check.all(n));
            Check.due(n + ": others of all", x.others(Check.all(n)), 0);
        }
        Check.sentence("a SET has bits for STEPS alone");
        for (int n = 1; n <= 12; n++) {
            for (int bit = n; bit < 32; bit++) {
                Check.due(n + ": others of bit " + bit, Check.circle(n).others(1 << bit), -2);
                Check.due(n + ": others of bits 0, " + bit,
                        Check.circle(n).others(1 | 1 << bit), -2);
            }
        }
    }

    private static void turnedAndMirrored() {
        Check.sentence("TURNED by t it has s + t for each s; MIRRORED - s");
        for (int n = 1; n <= 12; n++) {
            RowClasses x = Check.circle(n);
            for (int s = 0; s < n; s++) {
                for (int t = 0; t < n; t++) {
                    Check.due(n + ": " + s + " TURNED by " + t,
                            x.common(1 << (s + t) % n, 1 << s, t, false), 1);
                    Check.due(n + ": " + s + " MIRRORED, TURNED by " + t,
                            x.common(1 << (n - s + t) % n, 1 << s, t, true), 1);
                }
            }
        }
        Check.sentence("MIRRORED - s: 0 and the half of n stay where they are");
        for (int n = 2; n <= 12; n += 2) {
            Check.due(n + ": 0 and n / 2",
                    Check.circle(n).common(1 | 1 << n / 2, 1 | 1 << n / 2, 0, true), 2);
        }
    }

    private static void multipliedFallTogether() {
        Check.sentence("MULTIPLIED by m it has m s (some may fall together)");
        RowClasses x = new RowClasses();
        Check.due("all by 0", x.multiplied(4095, 0), Check.set(0));
        Check.due("all by 6", x.multiplied(4095, 6), Check.set(0, 6));
        Check.due("all by 4", x.multiplied(4095, 4), Check.set(0, 4, 8));
        Check.due("all by 8", x.multiplied(4095, 8), Check.set(0, 4, 8));
        Check.due("all by 9", x.multiplied(4095, 9), Check.set(0, 3, 6, 9));
        Check.due("all by 10", x.multiplied(4095, 10), Check.set(0, 2, 4, 6, 8, 10));
        Check.due("all by 5", x.multiplied(4095, 5), 4095);
        Check.due("0 6 by 2", x.multiplied(Check.set(0, 6), 2), Check.set(0));
        Check.due("1 7 by 2", x.multiplied(Check.set(1, 7), 2), Check.set(2));
        Check.due("9: all by 3", Check.circle(9).multiplied(511, 3), Check.set(0, 3, 6));
    }

    private static void units() {
        Check.sentence("A UNIT is an m of 0 .. n - 1 whose greatest common divisor with n is 1");
        // How many SETS the UNITS and the turns make of 0 and 1: n for each two of the UNITS.
        int[] due = {0, 1, 1, 3, 4, 10, 6, 21, 16, 27, 20, 55, 24};
        for (int n = 3; n <= 12; n++) {
            Check.due(n + ": size(0 1, 2)", Check.circle(n).size(3, 2), due[n]);
        }
        Check.due("0 6 by 2 would be 0", new RowClasses().least(Check.set(0, 6), 2), 65);
        Check.due("9: 0 3 by 3 would be 0", Check.circle(9).least(Check.set(0, 3), 2), 9);
        Check.due("0 5 by 5 is 0 1", new RowClasses().least(Check.set(0, 5), 2), 3);
        Check.due("8: 0 3 by 3 is 0 1", Check.circle(8).least(Check.set(0, 3), 2), 3);
        Check.sentence("(with 0 it is n)");
        // With 1 STEP 0 is a UNIT; with more all STEPS would fall together.
        Check.due("1: least(1, 2)", Check.circle(1).least(1, 2), 1);
        Check.due("1: size(1, 2)", Check.circle(1).size(1, 2), 1);
        Check.due("1: size(0, 2)", Check.circle(1).size(0, 2), 1);
        for (int n = 2; n <= 12; n++) {
            int all = Check.all(n);
            Check.due(n + ": least(all, 2)", Check.circle(n).least(all, 2), all);
            Check.due(n + ": least(0 1, 2)", Check.circle(n).least(3, 2), 3);
        }
    }

    private static void kinds() {
        // 0 1 3 and all that is made of it: the three KINDS have unlike CLASSES of it.
        int high = Check.set(8, 10, 11);
        RowClasses x = new RowClasses();
        Check.sentence("A CLASS of KIND 0 are all SETS that TURNING makes of one");
        Check.due("least(8 10 11, 0)", x.least(high, 0), Check.set(0, 2, 3));
        Check.due("size(8 10 11, 0)", x.size(high, 0), 12);
        Check.sentence("of KIND 1 TURNING and MIRRORING");
        Check.due("least(8 10 11, 1)", x.least(high, 1), Check.set(0, 1, 3));
        Check.due("size(8 10 11, 1)", x.size(high, 1), 24);
        Check.sentence("of KIND 2 TURNING and MULTIPLYING by UNITS");
        Check.due("least(0 2 7, 0)", x.least(Check.set(0, 2, 7), 0), Check.set(0, 2, 7));
        Check.due("least(0 2 7, 1)", x.least(Check.set(0, 2, 7), 1), Check.set(0, 2, 7));
        Check.due("least(0 2 7, 2)", x.least(Check.set(0, 2, 7), 2), Check.set(0, 1, 2));
        Check.due("size(8 10 11, 2)", x.size(high, 2), 48);
        Check.sentence("It is told by the least SET in it (as a number)");
        // The number counts, not how close the STEPS lie: 0 1 5 6 8 is 355, 0 1 3 7 8 is 395.
        Check.due("least(0 1 3 7 8, 0)", x.least(395, 0), 355);
        Check.due("least(0 1 3 7 8, 1)", x.least(395, 1), 355);
    }

    private static void ordersGoRound() {
        Check.sentence("An ORDER begins with any of its STEPS and goes round, upward");
        RowClasses x = new RowClasses();
        int[] due = {11, 1, 2};
        for (int i = 0; i < 3; i++) {
            Check.due("normal(1 2 11, 0, " + i + ")",
                    x.normal(Check.set(1, 2, 11), 0, i), due[i]);
        }
        Check.sentence("An ORDER goes through all of its STEPS");
        for (int n = 1; n <= 12; n++) {
            RowClasses y = Check.circle(n);
            for (int i = 0; i < n; i++) {
                Check.due(n + ": normal(all, 0, " + i + ")", y.normal(Check.all(n), 0, i), i);
            }
            Check.due(n + ": normal(all, 0, n)", y.normal(Check.all(n), 0, n), -1);
            Check.due(n + ": normal(n - 1, 0, 0)", y.normal(1 << (n - 1), 0, 0), n - 1);
            Check.due(n + ": normal(n - 1, 0, 1)", y.normal(1 << (n - 1), 0, 1), -1);
        }
    }

    private static void distances() {
        Check.sentence("Its DISTANCES are how far it is, upward (0 at first, all below n)");
        for (int n = 1; n <= 12; n++) {
            for (int rule = 0; rule <= 1; rule++) {
                RowClasses x = Check.circle(n);
                Check.due(n + ": prime(n - 1, 0)", x.prime(1 << (n - 1), rule, 0), 0);
                for (int i = 0; i < n; i++) {
                    Check.due(n + ": prime(all, " + i + ")", x.prime(Check.all(n), rule, i), i);
                }
            }
        }
        Check.due("7: prime(2 6, 0, 1), 3 upward from 6",
                Check.circle(7).prime(Check.set(2, 6), 0, 1), 3);
    }

    private static void isNormal(int n, int set, int rule, int... due) {
        RowClasses x = Check.circle(n);
        for (int i = 0; i < due.length; i++) {
            Check.due(n + ": normal(" + set + ", " + rule + ", " + i + ")",
                    x.normal(set, rule, i), due[i]);
        }
        Check.due(n + ": normal(" + set + ", " + rule + ", " + due.length + ")",
                x.normal(set, rule, due.length), -1);
    }

    private static void ruleZero() {
        Check.sentence("by RULE 0: that with the lesser last one");
        isNormal(12, Check.set(0, 3, 4, 10), 0, 10, 0, 3, 4);
        Check.sentence("by RULE 0: of the same the one with the lesser second");
        isNormal(12, Check.set(0, 5, 7), 0, 5, 7, 0);
        isNormal(12, Check.set(0, 1, 5, 7, 8), 0, 0, 1, 5, 7, 8);
        Check.sentence("by RULE 0: then third, ..");
        isNormal(12, Check.set(0, 1, 5, 6, 8), 0, 5, 6, 8, 0, 1);
        isNormal(12, Check.set(0, 1, 2, 5, 6, 7, 9), 0, 5, 6, 7, 9, 0, 1, 2);
        isNormal(12, Check.set(0, 1, 3, 5, 7, 8, 10), 0, 7, 8, 10, 0, 1, 3, 5);
        // The last but one decides at last.
        isNormal(11, Check.set(0, 1, 3, 4, 6, 8, 9), 0, 8, 9, 0, 1, 3, 4, 6);
    }

    private static void ruleOne() {
        Check.sentence("by RULE 1: that with the lesser last one");
        isNormal(12, Check.set(0, 3, 4, 10), 1, 10, 0, 3, 4);
        Check.sentence("by RULE 1: then last but one");
        isNormal(12, Check.set(0, 5, 7), 1, 5, 7, 0);
        isNormal(12, Check.set(0, 1, 3, 7, 8), 1, 7, 8, 0, 1, 3);
        Check.sentence("by RULE 1: and so on");
        isNormal(12, Check.set(0, 1, 5, 7, 8), 1, 5, 7, 8, 0, 1);
        isNormal(12, Check.set(0, 1, 2, 5, 7, 8, 9), 1, 5, 7, 8, 9, 0, 1, 2);
        // The second decides at last.
        isNormal(12, Check.set(0, 2, 3, 4, 6, 8, 10), 1, 2, 3, 4, 6, 8, 10, 0);
    }

    private static void normalOrderOfSeveral() {
        Check.sentence("of several the one that begins with the least STEP");
        for (int rule = 0; rule <= 1; rule++) {
            isNormal(12, Check.set(2, 5, 8, 11), rule, 2, 5, 8, 11);
            isNormal(12, Check.set(1, 7), rule, 1, 7);
            isNormal(12, Check.set(0, 1, 6, 7), rule, 0, 1, 6, 7);
            isNormal(12, Check.set(0, 5, 6, 11), rule, 5, 6, 11, 0);
            isNormal(9, Check.set(2, 5, 8), rule, 2, 5, 8);
            isNormal(2, Check.set(0, 1), rule, 0, 1);
        }
    }

    private static void primeFormIsTheLesser() {
        Check.sentence("THE PRIME FORM: of the NORMAL ORDER, or of that of the SET MIRRORED");
        RowClasses x = new RowClasses();
        for (int rule = 0; rule <= 1; rule++) {
            Check.due("prime(0 3 7), its own", x.prime(Check.set(0, 3, 7), rule, 1), 3);
            Check.due("prime(0 4 7), MIRRORED", x.prime(Check.set(0, 4, 7), rule, 1), 3);
            Check.due("prime(0 4 8), both", x.prime(Check.set(0, 4, 8), rule, 1), 4);
        }
        // What is the lesser is told by the RULE as well.
        int set = Check.set(0, 1, 3, 7, 8);
        Check.due("prime(0 1 3 7 8, 0, 2)", x.prime(set, 0, 2), 3);
        Check.due("prime(0 1 3 7 8, 1, 2)", x.prime(set, 1, 2), 5);
    }

    private static void vectorBounds() {
        Check.sentence("THE VECTOR tells for each d from 1 to n / 2 (rounded down)");
        for (int n = 1; n <= 12; n++) {
            RowClasses x = Check.circle(n);
            int all = Check.all(n);
            Check.due(n + ": vector(all, 0)", x.vector(all, 0), -2);
            for (int d = 1; d <= n / 2; d++) {
                Check.due(n + ": vector(all, " + d + ")",
                        x.vector(all, d), 2 * d == n ? d : n);
            }
            Check.due(n + ": vector(all, n / 2 + 1)", x.vector(all, n / 2 + 1), -2);
        }
    }

    private static void vectorByTheShorterWay() {
        Check.sentence("how many pairs of STEPS of a SET are d apart, by the shorter way");
        for (int n = 2; n <= 12; n++) {
            RowClasses x = Check.circle(n);
            for (int s = 1; s < n; s++) {
                int shorter = Math.min(s, n - s);
                for (int d = 1; d <= n / 2; d++) {
                    Check.due(n + ": vector(0 " + s + ", " + d + ")",
                            x.vector(1 | 1 << s, d), d == shorter ? 1 : 0);
                }
            }
        }
    }

    private static void rowIsWholeWithN() {
        Check.sentence("THE ROW has up to n STEPS in order, all unlike; with n it is WHOLE");
        for (int n = 1; n <= 12; n++) {
            RowClasses x = Check.circle(n);
            for (int step = n - 1; step >= 0; step--) {
                Check.due(n + ": unlike() with " + (n - 1 - step), x.unlike(), -3);
                Check.due(n + ": add(" + step + ")", x.add(step), n - step);
                Check.due(n + ": add(" + step + ") again", x.add(step), -3);
            }
            Check.due(n + ": unlike() of a whole one", x.unlike(), n <= 2 ? 1 : 0);
            for (int i = 0; i < n; i++) {
                Check.due(n + ": table(0, " + i + ")", x.table(0, i), n - 1 - i);
            }
        }
    }

    private static void formsFromTheEndOn() {
        // 3 1 0 2 4 of 5 STEPS: MIRRORED 2 4 0 3 1.
        RowClasses x = Check.row(5, 3, 1, 0, 2, 4);
        int[][] due = {{0, 3, 2, 4, 1}, {0, 2, 3, 1, 4}, {1, 4, 2, 3, 0}, {4, 1, 3, 2, 0}};
        String[] words = {
            "0 all its STEPS TURNED alike, so that the first one is t",
            "1 all MIRRORED, then TURNED alike, so that the first one is t",
            "2 that of KIND 0 from its end on", "3 that of KIND 1 from its end on",
        };
        for (int kind = 0; kind < 4; kind++) {
            Check.sentence("FORMS: " + words[kind]);
            for (int t = 0; t < 5; t++) {
                for (int i = 0; i < 5; i++) {
                    Check.due("form(" + kind + ", " + t + ", " + i + ")",
                            x.form(kind, t, i), (due[kind][i] + t) % 5);
                }
            }
        }
    }

    private static void intervalsButTheLast() {
        Check.sentence("INTERVALS are .. from each STEP but the last to the next one");
        // From the last one back to the first it would be 1 once more, and 2.
        Check.due("2: unlike() of 0 1", Check.row(2, 0, 1).unlike(), 1);
        Check.due("4: unlike() of 0 1 3 2", Check.row(4, 0, 1, 3, 2).unlike(), 1);
        Check.due("1: unlike() of 0, which has none", Check.row(1, 0).unlike(), 1);
        // That from the last but one to the last one counts: 1 2 4 and 2.
        Check.due("5: unlike() of 0 1 3 2 4", Check.row(5, 0, 1, 3, 2, 4).unlike(), 0);
    }

    private static void intervalsUpward() {
        Check.sentence("INTERVALS are how far it is, upward");
        // 1 upward and 1 downward are unlike: of 4 STEPS they are 1 and 3.
        Check.due("4: unlike() of 0 3 1 2", Check.row(4, 0, 3, 1, 2).unlike(), 1);
        Check.due("3: unlike() of 0 2 1", Check.row(3, 0, 2, 1).unlike(), 0);
        Check.due("3: unlike() of 0 1 2", Check.row(3, 0, 1, 2).unlike(), 0);
        Check.due("12: unlike() of a fan",
                Check.row(12, 5, 6, 4, 7, 3, 8, 2, 9, 1, 10, 0, 11).unlike(), 1);
    }

    private static void pieces() {
        Check.sentence("A PIECE is the SET of some STEPS behind one another");
        // As SETS they are the same in whatever order; round the end there is none.
        RowClasses x = Check.row(5, 0, 1, 2, 3, 4);
        Check.due("kept(2, 0, 2) the other way round", x.kept(2, 0, 2), 4);
        Check.due("kept(0, 1, 2): 1 2, 2 3, 3 4 and no 4 0", x.kept(0, 1, 2), 3);
        Check.due("kept(0, 1, 4): 1 2 3 4", x.kept(0, 1, 4), 1);
        Check.due("kept(0, 2, 4): none", x.kept(0, 2, 4), 0);
    }
}
