/** Promises 15 to 20: common, best, keeps, even, spread, generator. */
public final class MotionsTest {
    private static final int LEAST = Integer.MIN_VALUE;
    private static final int GREATEST = Integer.MAX_VALUE;
    private static final int SCALE = 2741;

    public static void main(String[] args) {
        common();
        commonNoneAndAll();
        commonBounds();
        best();
        bestIsTheLeast();
        bestNoneAndAll();
        keeps();
        keepsNoneAndAll();
        even();
        evenByOneAtMost();
        evenNoneAndAll();
        spread();
        spreadEnds();
        spreadBounds();
        generator();
        generatorGoesRound();
        generatorNoneAndAll();
        noSets();
        refusalsChangeNothing();
        Check.end("MotionsTest");
    }

    private static void common() {
        Check.sentence("promise 15: How many STEPS set has in common with other, .. TURNED by t");
        RowClasses x = new RowClasses();
        int one = Check.set(0, 1, 5);
        int other = Check.set(0, 4, 7);
        Check.due("common(0 1 5, 0 4 7, 0, false)", x.common(one, other, 0, false), 1);
        Check.due("common(0 1 5, 0 4 7, 1, false)", x.common(one, other, 1, false), 2);
        // 0 4 7 by 8 is 8 0 3, by 11 it is 11 3 6.
        Check.due("common(0 1 5, 0 4 7, 8, false)", x.common(one, other, 8, false), 1);
        Check.due("common(0 1 5, 0 4 7, 11, false)", x.common(one, other, 11, false), 0);
        // It is other that is TURNED, not set.
        Check.due("common(1, 2, 11, false)", x.common(1, 2, 11, false), 1);
        Check.due("common(1, 2, 1, false)", x.common(1, 2, 1, false), 0);
        Check.sentence("promise 15: MIRRORED or not, and then TURNED by t");
        // MIRRORED it is 0 8 5; TURNED by 5 that is 5 1 10. TURNED first it would be 7 3 0.
        Check.due("common(0 1 5, 0 4 7, 0, true)", x.common(one, other, 0, true), 2);
        Check.due("common(0 1 5, 0 4 7, 5, true)", x.common(one, other, 5, true), 2);
        Check.due("common(0 1 5, 0 4 7, 1, true)", x.common(one, other, 1, true), 1);
        Check.due("common(1, 2, 1, true)", x.common(1, 2, 1, true), 1);
        Check.due("common(1, 2, 11, true)", x.common(1, 2, 11, true), 0);
    }

    private static void commonNoneAndAll() {
        Check.sentence("promise 15: the empty SET, all STEPS; t is 0 and n - 1");
        for (int n = 1; n <= 12; n++) {
            RowClasses x = Check.circle(n);
            int all = Check.all(n);
            for (boolean mirrored : new boolean[] {false, true}) {
                for (int t : new int[] {0, n - 1}) {
                    String of = n + ", " + t + ", " + mirrored + ": common";
                    Check.due(of + "(0, 0)", x.common(0, 0, t, mirrored), 0);
                    Check.due(of + "(all, 0)", x.common(all, 0, t, mirrored), 0);
                    Check.due(of + "(0, all)", x.common(0, all, t, mirrored), 0);
                    Check.due(of + "(all, all)", x.common(all, all, t, mirrored), n);
                    Check.due(of + "(1, all)", x.common(1, all, t, mirrored), 1);
                    Check.due(of + "(t, 0)", x.common(1 << t, 1, t, mirrored), 1);
                }
            }
        }
    }

    private static void commonBounds() {
        for (int n = 1; n <= 12; n++) {
            RowClasses x = Check.circle(n);
            Check.sentence("promise 15: -2 t is not 0 .. n - 1");
            for (int t : new int[] {-1, n, n + 1, -n, LEAST, GREATEST}) {
                Check.due(n + ": common(1, 1, " + t + ", false)", x.common(1, 1, t, false), -2);
                Check.due(n + ": common(0, 0, " + t + ", true)", x.common(0, 0, t, true), -2);
            }
            Check.sentence("promise 15: -2 (any two)");
            Check.due(n + ": common(-1, -1, 0, false)", x.common(-1, -1, 0, false), -2);
            Check.due(n + ": common(-1, 0, n, false)", x.common(-1, 0, n, false), -2);
            Check.due(n + ": common(0, 2^n, -1, true)", x.common(0, 1 << n, -1, true), -2);
        }
    }

    private static void best() {
        Check.sentence("promise 16: The .. t with which that is greatest");
        RowClasses x = new RowClasses();
        Check.due("best(1, 2, false)", x.best(1, 2, false), 11);
        Check.due("best(1, 2, true)", x.best(1, 2, true), 1);
        Check.due("best(4, 1, false)", x.best(4, 1, false), 2);
        Check.due("best(scale, scale, true)", x.best(SCALE, SCALE, true), 4);
        for (int n = 1; n <= 12; n++) {
            for (int s = 0; s < n; s++) {
                Check.due(n + ": best(" + s + ", 0, false)",
                        Check.circle(n).best(1 << s, 1, false), s);
                Check.due(n + ": best(0, " + s + ", false)",
                        Check.circle(n).best(1, 1 << s, false), (n - s) % n);
                Check.due(n + ": best(0, " + s + ", true)",
                        Check.circle(n).best(1, 1 << s, true), s);
            }
        }
    }

    private static void bestIsTheLeast() {
        Check.sentence("promise 16: The least t");
        RowClasses x = new RowClasses();
        // As good with 1, 4, 7 and 10.
        Check.due("best(0 3 6 9, 2 5 8 11, false)", x.best(585, 585 << 2, false), 1);
        Check.due("best(0 6, 1 7, false)", x.best(Check.set(0, 6), Check.set(1, 7), false), 5);
        Check.due("best(0 6, 1 7, true)", x.best(Check.set(0, 6), Check.set(1, 7), true), 1);
        Check.due("best(scale, scale, false)", x.best(SCALE, SCALE, false), 0);
        Check.due("best(0 1, 5, false)", x.best(Check.set(0, 1), Check.set(5), false), 7);
    }

    private static void bestNoneAndAll() {
        Check.sentence("promise 16: the empty SET and all STEPS, where each t is as good");
        for (int n = 1; n <= 12; n++) {
            int all = Check.all(n);
            for (boolean mirrored : new boolean[] {false, true}) {
                RowClasses x = Check.circle(n);
                Check.due(n + ": best(0, 0)", x.best(0, 0, mirrored), 0);
                Check.due(n + ": best(0, all)", x.best(0, all, mirrored), 0);
                Check.due(n + ": best(all, 0)", x.best(all, 0, mirrored), 0);
                Check.due(n + ": best(all, all)", x.best(all, all, mirrored), 0);
                Check.due(n + ": best(all, n - 1)", x.best(all, 1 << (n - 1), mirrored), 0);
            }
        }
    }

    private static void keeps() {
        Check.sentence("promise 17: For how many t of 0 .. n - 1 a SET .. is what it was");
        RowClasses x = new RowClasses();
        Check.due("keeps(major, false)", x.keeps(145, false), 1);
        Check.due("keeps(major, true)", x.keeps(145, true), 0);
        Check.due("keeps(scale, false)", x.keeps(SCALE, false), 1);
        Check.due("keeps(scale, true)", x.keeps(SCALE, true), 1);
        Check.due("keeps(0 1 6 7, false)", x.keeps(Check.set(0, 1, 6, 7), false), 2);
        Check.due("keeps(0 1 6 7, true)", x.keeps(Check.set(0, 1, 6, 7), true), 2);
        // Kept by turns, by no mirror.
        Check.due("keeps(0 1 3 6 7 9, false)", x.keeps(Check.set(0, 1, 3, 6, 7, 9), false), 2);
        Check.due("keeps(0 1 3 6 7 9, true)", x.keeps(Check.set(0, 1, 3, 6, 7, 9), true), 0);
        Check.due("9: keeps(1 4 7, false)", Check.circle(9).keeps(Check.set(1, 4, 7), false), 3);
    }

    private static void keepsNoneAndAll() {
        Check.sentence("promise 17: the empty SET, one STEP, all but one and all STEPS");
        for (int n = 1; n <= 12; n++) {
            for (boolean mirrored : new boolean[] {false, true}) {
                RowClasses x = Check.circle(n);
                String of = n + ", " + mirrored + ": keeps";
                Check.due(of + "(0)", x.keeps(0, mirrored), n);
                Check.due(of + "(all)", x.keeps(Check.all(n), mirrored), n);
                Check.due(of + "(n - 1)", x.keeps(1 << (n - 1), mirrored), 1);
                if (n > 1) {
                    Check.due(of + "(all but 0)", x.keeps(Check.all(n) - 1, mirrored), 1);
                }
            }
        }
    }

    private static void even() {
        Check.sentence("promise 18: Whether for each j the ways upward .. are alike");
        RowClasses x = new RowClasses();
        Check.due("even(0 6)", x.even(Check.set(0, 6)), 1);
        Check.due("even(0 4 8)", x.even(Check.set(0, 4, 8)), 1);
        Check.due("even(1 4 7 10)", x.even(Check.set(1, 4, 7, 10)), 1);
        Check.due("even(1365)", x.even(1365), 1);
        Check.due("9: even(2 5 8)", Check.circle(9).even(Check.set(2, 5, 8)), 1);
    }

    private static void evenByOneAtMost() {
        Check.sentence("promise 18: or differ by 1 at most");
        RowClasses x = new RowClasses();
        Check.due("even(scale)", x.even(SCALE), 1);
        Check.due("even(the rest of it)", x.even(4095 - SCALE), 1);
        Check.due("even(0 2 4 6 7 9 11)", x.even(Check.set(0, 2, 4, 6, 7, 9, 11)), 1);
        // 5 and 7 differ by 2; of 7 STEPS 3 and 4 by 1, 2 and 5 by 3.
        Check.due("even(0 5)", x.even(Check.set(0, 5)), 0);
        Check.due("7: even(0 3)", Check.circle(7).even(Check.set(0, 3)), 1);
        Check.due("7: even(0 2)", Check.circle(7).even(Check.set(0, 2)), 0);
        Check.sentence("promise 18: for each j, round the SET, less than its STEPS");
        // The ways to the next one are 1 and 2 throughout; those to one farther on are not alike.
        Check.due("even(0 2 3 5 7 9 11)", x.even(Check.set(0, 2, 3, 5, 7, 9, 11)), 0);
        Check.due("even(0 1 2 4 6 8 10)", x.even(Check.set(0, 1, 2, 4, 6, 8, 10)), 0);
        Check.due("even(0 2 3 5 7 8 11)", x.even(Check.set(0, 2, 3, 5, 7, 8, 11)), 0);
        // The way round the end is as long as any: 0 3 6 leaves 6.
        Check.due("even(0 3 6)", x.even(Check.set(0, 3, 6)), 0);
    }

    private static void evenNoneAndAll() {
        for (int n = 1; n <= 12; n++) {
            RowClasses x = Check.circle(n);
            Check.sentence("promise 18: 0 for the empty one");
            Check.due(n + ": even(0)", x.even(0), 0);
            Check.sentence("promise 18: one STEP has no j, all STEPS are alike");
            Check.due(n + ": even(1)", x.even(1), 1);
            Check.due(n + ": even(n - 1)", x.even(1 << (n - 1)), 1);
            Check.due(n + ": even(all)", x.even(Check.all(n)), 1);
            Check.due(n + ": even(all but 0)", x.even(Check.all(n) - 1), n == 1 ? 0 : 1);
        }
    }

    private static void spread() {
        Check.sentence("promise 19: The SET of all (n i + shift) / k, rounded down");
        RowClasses x = new RowClasses();
        Check.due("spread(7, 5)", x.spread(7, 5), SCALE);
        Check.due("spread(5, 0)", x.spread(5, 0), Check.set(0, 2, 4, 7, 9));
        Check.due("spread(5, 1)", x.spread(5, 1), Check.set(0, 2, 5, 7, 9));
        Check.due("spread(4, 11)", x.spread(4, 11), Check.set(2, 5, 8, 11));
        Check.due("8: spread(3, 0)", Check.circle(8).spread(3, 0), Check.set(0, 2, 5));
        Check.due("8: spread(3, 7)", Check.circle(8).spread(3, 7), Check.set(2, 5, 7));
    }

    private static void spreadEnds() {
        Check.sentence("promise 19: k is 1 and n, shift is 0 and n - 1");
        for (int n = 1; n <= 12; n++) {
            RowClasses x = Check.circle(n);
            Check.due(n + ": spread(1, 0)", x.spread(1, 0), 1);
            Check.due(n + ": spread(1, n - 1)", x.spread(1, n - 1), 1 << (n - 1));
            Check.due(n + ": spread(n, 0)", x.spread(n, 0), Check.all(n));
            Check.due(n + ": spread(n, n - 1)", x.spread(n, n - 1), Check.all(n));
            if (n > 1) {
                // With n - 1 the last one is left out, or, shifted to the end, the first.
                Check.due(n + ": spread(n - 1, 0)", x.spread(n - 1, 0), Check.all(n - 1));
                Check.due(n + ": spread(n - 1, n - 1)",
                        x.spread(n - 1, n - 1), Check.all(n) - 1);
            }
        }
    }

    private static void spreadBounds() {
        for (int n = 1; n <= 12; n++) {
            RowClasses x = Check.circle(n);
            Check.sentence("promise 19: -2 k is not 1 .. n");
            for (int k : new int[] {0, -1, n + 1, n + 2, LEAST, LEAST + 1, GREATEST}) {
                Check.due(n + ": spread(" + k + ", 0)", x.spread(k, 0), -2);
            }
            Check.sentence("promise 19: -2 shift not 0 .. n - 1");
            for (int shift : new int[] {-1, n, n + 1, LEAST, LEAST + 1, GREATEST}) {
                Check.due(n + ": spread(1, " + shift + ")", x.spread(1, shift), -2);
                Check.due(n + ": spread(n, " + shift + ")", x.spread(n, shift), -2);
            }
            Check.sentence("promise 19: -2 k, shift");
            Check.due(n + ": spread(0, n)", x.spread(0, n), -2);
        }
    }

    private static void generator() {
        Check.sentence("promise 20: The least g of 0 .. n - 1");
        RowClasses x = new RowClasses();
        Check.due("generator(scale)", x.generator(SCALE), 5);
        Check.due("generator(0 4 8)", x.generator(Check.set(0, 4, 8)), 4);
        Check.due("generator(1 7)", x.generator(Check.set(1, 7)), 6);
        Check.due("generator(0 2 4 6 8 10)", x.generator(1365), 2);
        Check.due("generator(0 3 6)", x.generator(Check.set(0, 3, 6)), 3);
        Check.sentence("promise 20: -3");
        Check.due("generator(0 4 7)", x.generator(145), -3);
        Check.due("generator(0 1 6 7)", x.generator(Check.set(0, 1, 6, 7)), -3);
        // By 6 the STEPS come again too soon: as many as it has are not made.
        Check.due("generator(0 6 7)", x.generator(Check.set(0, 6, 7)), -3);
    }

    private static void generatorGoesRound() {
        Check.sentence("promise 20: s, s + g, s + 2 g .., for some s");
        RowClasses x = new RowClasses();
        Check.due("generator(0 11)", x.generator(Check.set(0, 11)), 1);
        Check.due("generator(10 0 2)", x.generator(Check.set(10, 0, 2)), 2);
        Check.due("generator(5 10 3)", x.generator(Check.set(5, 10, 3)), 5);
        for (int n = 2; n <= 12; n++) {
            Check.due(n + ": generator(n - 1, 0)",
                    Check.circle(n).generator(1 | 1 << (n - 1)), 1);
        }
        Check.due("7: generator(0 4)", Check.circle(7).generator(Check.set(0, 4)), 3);
    }

    private static void generatorNoneAndAll() {
        for (int n = 1; n <= 12; n++) {
            RowClasses x = Check.circle(n);
            Check.sentence("promise 20: -3 (the empty one, too)");
            Check.due(n + ": generator(0)", x.generator(0), -3);
            Check.sentence("promise 20: of one STEP it is 0, of all STEPS 1");
            for (int s = 0; s < n; s++) {
                Check.due(n + ": generator(" + s + ")", x.generator(1 << s), 0);
            }
            if (n > 1) {
                Check.due(n + ": generator(all)", x.generator(Check.all(n)), 1);
                Check.due(n + ": generator(all but 0)",
                        x.generator(Check.all(n) - 1), n == 2 ? 0 : 1);
            }
        }
    }

    private static void noSets() {
        for (int n = 1; n <= 12; n++) {
            RowClasses x = Check.circle(n);
            for (int set : new int[] {-1, -Check.all(n), 1 << n, (1 << n) + 1, LEAST, LEAST + 1,
                GREATEST - 1, GREATEST}) {
                String of = n + ": (" + set + ")";
                Check.sentence("promise 15: -2 (the SET, the other SET)");
                Check.due("common" + of, x.common(set, 0, 0, false), -2);
                Check.due("common, mirrored" + of, x.common(set, 1, 0, true), -2);
                Check.due("common, other" + of, x.common(0, set, 0, true), -2);
                Check.sentence("promise 16: -2 (either)");
                Check.due("best" + of, x.best(set, 0, false), -2);
                Check.due("best, other" + of, x.best(0, set, true), -2);
                Check.due("best, both" + of, x.best(set, set, true), -2);
                Check.sentence("promise 17: -2");
                Check.due("keeps" + of, x.keeps(set, false), -2);
                Check.due("keeps, mirrored" + of, x.keeps(set, true), -2);
                Check.sentence("promise 18: -2");
                Check.due("even" + of, x.even(set), -2);
                Check.sentence("promise 20: -2");
                Check.due("generator" + of, x.generator(set), -2);
            }
        }
    }

    private static void refusalsChangeNothing() {
        Check.sentence("promises 15 to 20: a REFUSAL changes nothing");
        for (int n = 1; n <= 12; n++) {
            for (int length : new int[] {0, n - 1, n}) {
                RowClasses x = Check.rising(n, length);
                RowClasses untold = Check.rising(n, length);
                x.common(-1, 0, 0, false);
                x.common(0, 1 << n, 0, true);
                x.common(0, 0, n, false);
                x.best(-1, 0, false);
                x.best(0, 1 << n, true);
                x.keeps(-1, true);
                x.even(1 << n);
                x.spread(0, 0);
                x.spread(1, n);
                x.generator(0);
                x.generator(-1);
                Check.same(n + ": the state", Check.state(x), Check.state(untold));
            }
        }
    }
}
