import java.util.ArrayList;
import java.util.Collections;
import java.util.List;
import java.util.Random;
import java.util.TreeSet;

/**
 * Every call but steps and add against the document's words in Plain: all SETS of every number of
 * STEPS; all pairs of SETS and all ROWS of few STEPS, and many of more. An object is left before its
 * 512th call, as the document has it.
 */
public final class AgainstPlainTest {
    private static final int MOST_CALLS = 500;
    /** Up to so many STEPS every pair of SETS is looked at, and every ROW. */
    private static final int ALL_PAIRS = 6;
    private static final int ALL_ROWS = 6;

    private static RowClasses x;
    private static int calls;

    public static void main(String[] args) {
        for (int n = 1; n <= 12; n++) {
            Plain plain = new Plain(n);
            classesAndDiffer(plain);
            everySet(plain);
            pairsOfSets(plain);
            spreads(plain);
            rowsOf(plain);
            Check.due(n + " steps: rows()", at(n).rows(), plain.rows());
        }
        rounds();
        Check.end("AgainstPlainTest");
    }

    /** An object with n STEPS for one more call. */
    private static RowClasses at(int n) {
        if (x == null || calls >= MOST_CALLS || x.others(0) != (1 << n) - 1) {
            x = Check.circle(n);
            calls = 1;
        }
        calls += 2;
        return x;
    }

    private static void classesAndDiffer(Plain plain) {
        int n = plain.n;
        for (int k = 0; k <= n; k++) {
            String of = n + " steps: ";
            for (int kind = 0; kind <= 2; kind++) {
                TreeSet<Integer> due = plain.classes(k, kind);
                Check.due(of + "classes(" + k + ", " + kind + ")",
                        at(n).classes(k, kind), due.size());
                int i = 0;
                for (int set : due) {
                    Check.due(of + "nth(" + k + ", " + kind + ", " + i + ")",
                            at(n).nth(k, kind, i), set);
                    i++;
                }
                Check.due(of + "nth(" + k + ", " + kind + ", " + i + ")",
                        at(n).nth(k, kind, i), -1);
            }
            Check.due(of + "differ(" + k + ")", at(n).differ(k), plain.differ(k));
        }
    }

    private static void everySet(Plain plain) {
        for (int set = 0; set < 1 << plain.n; set++) {
            classOf(plain, set);
            orders(plain, set);
            vectorAndTwin(plain, set);
            motions(plain, set);
        }
    }

    private static void classOf(Plain plain, int set) {
        for (int kind = 0; kind <= 2; kind++) {
            TreeSet<Integer> members = plain.members(set, kind);
            String of = plain.n + " steps: (" + set + ", " + kind + ")";
            Check.due(of + " least", at(plain.n).least(set, kind), members.first());
            Check.due(of + " size", at(plain.n).size(set, kind), members.size());
        }
    }

    private static void orders(Plain plain, int set) {
        int size = plain.stepsOf(set).size();
        for (int rule = 0; rule <= 1 && size > 0; rule++) {
            List<Integer> normal = plain.normal(set, rule);
            List<Integer> prime = plain.prime(set, rule);
            for (int i = 0; i < size; i++) {
                String of = plain.n + " steps: (" + set + ", " + rule + ", " + i + ")";
                Check.due(of + " normal", at(plain.n).normal(set, rule, i), normal.get(i));
                Check.due(of + " prime", at(plain.n).prime(set, rule, i), prime.get(i));
            }
        }
    }

    private static void vectorAndTwin(Plain plain, int set) {
        List<Integer> vector = plain.vector(set);
        for (int d = 1; d <= plain.n / 2; d++) {
            Check.due(plain.n + " steps: vector(" + set + ", " + d + ")",
                    at(plain.n).vector(set, d), vector.get(d - 1));
        }
        Check.due(plain.n + " steps: twin(" + set + ")", at(plain.n).twin(set), plain.twin(set));
    }

    private static void motions(Plain plain, int set) {
        int n = plain.n;
        String of = n + " steps: (" + set + ") ";
        for (int s = 0; s < n; s++) {
            Check.due(of + "multiplied by " + s,
                    at(n).multiplied(set, s), plain.multiplied(set, s));
        }
        Check.due(of + "others", at(n).others(set), plain.others(set));
        Check.due(of + "keeps, turned", at(n).keeps(set, false), plain.keeps(set, false));
        Check.due(of + "keeps, mirrored", at(n).keeps(set, true), plain.keeps(set, true));
        Check.due(of + "even", at(n).even(set), plain.even(set));
        Check.due(of + "generator", at(n).generator(set), plain.generator(set));
    }

    private static void pairsOfSets(Plain plain) {
        int sets = 1 << plain.n;
        if (plain.n <= ALL_PAIRS) {
            for (int pair = 0; pair < sets * sets; pair++) {
                pairOfSets(plain, pair / sets, pair % sets);
            }
            return;
        }
        Random random = new Random(plain.n);
        for (int pair = 0; pair < 600; pair++) {
            int set = random.nextInt(sets);
            // Half of them inside, or there would hardly ever be one within the other.
            pairOfSets(plain, set, random.nextInt(sets) & (pair % 2 == 0 ? set : -1));
        }
    }

    private static void pairOfSets(Plain plain, int set, int other) {
        int n = plain.n;
        String of = n + " steps: (" + set + ", " + other + ") ";
        for (int kind = 0; kind <= 2; kind++) {
            Check.due(of + "within, kind " + kind,
                    at(n).within(set, other, kind), plain.within(set, other, kind));
        }
        for (boolean mirrored : new boolean[] {false, true}) {
            for (int t = 0; t < n; t++) {
                Check.due(of + "common, " + t + ", " + mirrored,
                        at(n).common(set, other, t, mirrored),
                        plain.common(set, other, t, mirrored));
            }
            Check.due(of + "best, " + mirrored,
                    at(n).best(set, other, mirrored), plain.best(set, other, mirrored));
        }
    }

    private static void spreads(Plain plain) {
        for (int k = 1; k <= plain.n; k++) {
            for (int shift = 0; shift < plain.n; shift++) {
                Check.due(plain.n + " steps: spread(" + k + ", " + shift + ")",
                        at(plain.n).spread(k, shift), plain.spread(k, shift));
            }
        }
    }

    private static void rowsOf(Plain plain) {
        if (plain.n <= ALL_ROWS) {
            everyRow(plain, new ArrayList<>());
            return;
        }
        Random random = new Random(100 + plain.n);
        for (int number = 0; number < 60; number++) {
            oneRow(plain, someRow(plain, random, number));
        }
    }

    private static void everyRow(Plain plain, List<Integer> begun) {
        if (begun.size() == plain.n) {
            oneRow(plain, begun);
            return;
        }
        for (int step = 0; step < plain.n; step++) {
            if (!begun.contains(step)) {
                List<Integer> longer = new ArrayList<>(begun);
                longer.add(step);
                everyRow(plain, longer);
            }
        }
    }

    private static void oneRow(Plain plain, List<Integer> row) {
        RowClasses y = Check.circle(plain.n);
        for (int step : row) {
            y.add(step);
        }
        String of = row + " ";
        Check.due(of + "forms()", y.forms(), plain.forms(row));
        Check.due(of + "unlike()", y.unlike(), plain.unlike(row));
        formsAndKept(plain, row);
        tables(plain, row, y);
        halves(plain, row, y);
        for (int d = 1; d <= plain.n; d++) {
            for (int kind = 0; kind <= 2 && plain.n % d == 0; kind++) {
                Check.due(of + "derived(" + d + ", " + kind + ")",
                        y.derived(d, kind), plain.derived(row, d, kind));
            }
        }
    }

    /** Rows as they come, and rows of one step again and again, which are kept by more. */
    private static List<Integer> someRow(Plain plain, Random random, int number) {
        List<Integer> row = new ArrayList<>();
        for (int i = 0; i < plain.n; i++) {
            row.add(i);
        }
        if (number % 3 == 0) {
            Collections.shuffle(row, random);
        } else {
            int g = random.nextInt(plain.n);
            int start = random.nextInt(plain.n);
            for (int i = 0; i < plain.n; i++) {
                row.set(i, plain.mod(start + (plain.isUnit(g) ? g : 1) * i));
            }
            if (number % 3 == 2) {
                Collections.swap(row, random.nextInt(plain.n), random.nextInt(plain.n));
            }
        }
        return row;
    }

    private static void formsAndKept(Plain plain, List<Integer> row) {
        int n = plain.n;
        for (int kind = 0; kind < 4; kind++) {
            RowClasses y = Check.circle(n);
            for (int step : row) {
                y.add(step);
            }
            for (int t = 0; t < n; t++) {
                List<Integer> form = plain.form(row, kind, t);
                for (int i = 0; i < n; i++) {
                    Check.due(row + " form(" + kind + ", " + t + ", " + i + ")",
                            y.form(kind, t, i), form.get(i));
                    int d = i + 1;
                    Check.due(row + " kept(" + kind + ", " + t + ", " + d + ")",
                            y.kept(kind, t, d), plain.kept(row, kind, t, d));
                }
            }
        }
    }

    private static void tables(Plain plain, List<Integer> row, RowClasses y) {
        for (int i = 0; i < plain.n; i++) {
            for (int j = 0; j < plain.n; j++) {
                Check.due(row + " table(" + i + ", " + j + ")",
                        y.table(i, j), plain.table(row, i, j));
            }
        }
    }

    private static void halves(Plain plain, List<Integer> row, RowClasses y) {
        for (int kind = 0; kind < 4; kind++) {
            List<Integer> due = plain.fills(row, kind);
            for (int i = 0; i < due.size() && plain.n % 2 == 0; i++) {
                Check.due(row + " fills(" + kind + ", " + i + ")", y.fills(kind, i), due.get(i));
            }
            Check.due(row + " fills(" + kind + ", " + due.size() + ")",
                    y.fills(kind, due.size()), plain.n % 2 == 0 ? -1 : -3);
        }
    }

    private static void rounds() {
        for (int beads = 1; beads <= 24; beads++) {
            for (int colours = 1; colours <= 6; colours++) {
                for (boolean mirrored : new boolean[] {false, true}) {
                    String call = "rounds(" + beads + ", " + colours + ", " + mirrored + ")";
                    long got = at(12).rounds(beads, colours, mirrored);
                    Check.due(call, got, Plain.roundsByCycles(beads, colours, mirrored));
                    if (Math.pow(colours, beads) < 50_000) {
                        Check.due(call + " one by one", got,
                                Plain.roundsOneByOne(beads, colours, mirrored));
                    }
                }
            }
        }
    }
}
