import java.util.ArrayList;
import java.util.List;
import java.util.TreeSet;

/**
 * What the document says that each call answers in each state: the refusals in the order in which
 * the call names them, then what Plain makes of the terms.
 */
final class Model {
    /** Stands for the ArithmeticException of promise 2. */
    static final long THROWS = Long.MIN_VALUE;

    private static final Plain[] PLAINS = new Plain[13];

    private Plain plain;
    private int n;
    private final List<Integer> row = new ArrayList<>();

    Model() {
        become(12);
    }

    int count() {
        return n;
    }

    String state() {
        return Check.stateOf(n, row);
    }

    private void become(int steps) {
        n = steps;
        if (PLAINS[n] == null) {
            PLAINS[n] = new Plain(n);
        }
        plain = PLAINS[n];
    }

    private static boolean outside(int number, int low, int high) {
        return number < low || number > high;
    }

    private boolean noSet(int set) {
        return outside(set, 0, (1 << n) - 1);
    }

    private boolean noStep(int step) {
        return outside(step, 0, n - 1);
    }

    private static boolean noKind(int kind) {
        return outside(kind, 0, 2);
    }

    private static boolean noForm(int kind) {
        return outside(kind, 0, 3);
    }

    private boolean isWhole() {
        return row.size() == n;
    }

    private static long place(List<Integer> of, int i) {
        return i < 0 || i >= of.size() ? -1 : of.get(i);
    }

    long steps(int steps) {
        if (steps == 0) {
            return THROWS;
        }
        if (steps < 0 || steps > 12) {
            return -2;
        }
        int left = n % steps;
        become(steps);
        row.clear();
        return left;
    }

    long least(int set, int kind) {
        return noSet(set) || noKind(kind) ? -2 : plain.members(set, kind).first();
    }

    long size(int set, int kind) {
        return noSet(set) || noKind(kind) ? -2 : plain.members(set, kind).size();
    }

    long classes(int k, int kind) {
        return outside(k, 0, n) || noKind(kind) ? -2 : plain.classes(k, kind).size();
    }

    long nth(int k, int kind, int i) {
        if (outside(k, 0, n) || noKind(kind)) {
            return -2;
        }
        TreeSet<Integer> found = plain.classes(k, kind);
        return place(new ArrayList<>(found), i);
    }

    long normal(int set, int rule, int i) {
        if (noSet(set) || outside(rule, 0, 1)) {
            return -2;
        }
        return set == 0 ? -3 : place(plain.normal(set, rule), i);
    }

    long prime(int set, int rule, int i) {
        if (noSet(set) || outside(rule, 0, 1)) {
            return -2;
        }
        return set == 0 ? -3 : place(plain.prime(set, rule), i);
    }

    long differ(int k) {
        return outside(k, 0, n) ? -2 : plain.differ(k);
    }

    long vector(int set, int d) {
        return noSet(set) || outside(d, 1, n / 2) ? -2 : plain.vector(set).get(d - 1);
    }

    long twin(int set) {
        return noSet(set) ? -2 : plain.twin(set);
    }

    long others(int set) {
        return noSet(set) ? -2 : plain.others(set);
    }

    long multiplied(int set, int m) {
        return noSet(set) || noStep(m) ? -2 : plain.multiplied(set, m);
    }

    long within(int set, int other, int kind) {
        return noSet(set) || noSet(other) || noKind(kind) ? -2 : plain.within(set, other, kind);
    }

    long common(int set, int other, int t, boolean mirrored) {
        return noSet(set) || noSet(other) || noStep(t) ? -2
                : plain.common(set, other, t, mirrored);
    }

    long best(int set, int other, boolean mirrored) {
        return noSet(set) || noSet(other) ? -2 : plain.best(set, other, mirrored);
    }

    long keeps(int set, boolean mirrored) {
        return noSet(set) ? -2 : plain.keeps(set, mirrored);
    }

    long even(int set) {
        return noSet(set) ? -2 : plain.even(set);
    }

    long spread(int k, int shift) {
        return outside(k, 1, n) || noStep(shift) ? -2 : plain.spread(k, shift);
    }

    long generator(int set) {
        return noSet(set) ? -2 : plain.generator(set);
    }

    long add(int step) {
        if (noStep(step)) {
            return -2;
        }
        if (row.contains(step)) {
            return -3;
        }
        row.add(step);
        return row.size();
    }

    long clear() {
        int had = row.size();
        row.clear();
        return had;
    }

    long form(int kind, int t, int i) {
        if (noForm(kind) || noStep(t)) {
            return -2;
        }
        return isWhole() ? place(plain.form(row, kind, t), i) : -3;
    }

    long forms() {
        return isWhole() ? plain.forms(row) : -3;
    }

    long table(int i, int j) {
        if (!isWhole()) {
            return -3;
        }
        return noStep(i) || noStep(j) ? -1 : plain.table(row, i, j);
    }

    long unlike() {
        return isWhole() ? plain.unlike(row) : -3;
    }

    long rows() {
        return plain.rows();
    }

    long fills(int kind, int i) {
        if (noForm(kind)) {
            return -2;
        }
        return !isWhole() || n % 2 == 1 ? -3 : place(plain.fills(row, kind), i);
    }

    long derived(int d, int kind) {
        if (noKind(kind) || outside(d, 1, n) || n % d != 0) {
            return -2;
        }
        return isWhole() ? plain.derived(row, d, kind) : -3;
    }

    long kept(int kind, int t, int d) {
        if (noForm(kind) || noStep(t) || outside(d, 1, n)) {
            return -2;
        }
        return isWhole() ? plain.kept(row, kind, t, d) : -3;
    }

    long rounds(int beads, int colours, boolean mirrored) {
        return outside(beads, 1, 24) || outside(colours, 1, 6) ? -2
                : Plain.roundsByCycles(beads, colours, mirrored);
    }
}
