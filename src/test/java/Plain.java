import java.math.BigInteger;
import java.util.ArrayDeque;
import java.util.ArrayList;
import java.util.Arrays;
import java.util.Collections;
import java.util.Deque;
import java.util.HashMap;
import java.util.HashSet;
import java.util.List;
import java.util.Map;
import java.util.Set;
import java.util.TreeSet;

/**
 * The document's terms, word for word and without thought of speed: what RowClasses answers is held
 * against this. It knows no refusals but -3 for what there is none of; Model tells the others.
 */
final class Plain {
    final int n;
    /** What is asked again and again is kept, or the tests would take too long. */
    private final Map<List<Integer>, TreeSet<Integer>> keptMembers = new HashMap<>();
    private final Map<List<Integer>, TreeSet<Integer>> keptClasses = new HashMap<>();
    private final Map<Integer, List<Integer>> keptVectors = new HashMap<>();
    private final Map<Integer, Integer> keptDiffers = new HashMap<>();
    private int keptRows = -1;

    Plain(int n) {
        this.n = n;
    }

    int mod(int number) {
        return ((number % n) + n) % n;
    }

    List<Integer> stepsOf(int set) {
        List<Integer> steps = new ArrayList<>();
        for (int s = 0; s < n; s++) {
            if ((set & (1 << s)) != 0) {
                steps.add(s);
            }
        }
        return steps;
    }

    int bits(Iterable<Integer> steps) {
        int set = 0;
        for (int s : steps) {
            set |= 1 << s;
        }
        return set;
    }

    int turned(int set, int t) {
        List<Integer> result = new ArrayList<>();
        for (int s : stepsOf(set)) {
            result.add(mod(s + t));
        }
        return bits(result);
    }

    int mirrored(int set) {
        List<Integer> result = new ArrayList<>();
        for (int s : stepsOf(set)) {
            result.add(mod(-s));
        }
        return bits(result);
    }

    int multiplied(int set, int m) {
        List<Integer> result = new ArrayList<>();
        for (int s : stepsOf(set)) {
            result.add(mod(s * m));
        }
        return bits(result);
    }

    boolean isUnit(int m) {
        return BigInteger.valueOf(m).gcd(BigInteger.valueOf(n)).intValue() == 1;
    }

    TreeSet<Integer> members(int set, int kind) {
        List<Integer> key = List.of(set, kind);
        TreeSet<Integer> kept = keptMembers.get(key);
        if (kept == null) {
            kept = madeOf(set, kind);
            keptMembers.put(key, kept);
        }
        return kept;
    }

    /** The CLASS: all that the motions make of a SET, one behind the other. */
    private TreeSet<Integer> madeOf(int set, int kind) {
        TreeSet<Integer> found = new TreeSet<>();
        Deque<Integer> open = new ArrayDeque<>();
        found.add(set);
        open.add(set);
        while (!open.isEmpty()) {
            int one = open.poll();
            List<Integer> next = new ArrayList<>();
            next.add(turned(one, 1));
            if (kind == 1) {
                next.add(mirrored(one));
            }
            for (int m = 0; kind == 2 && m < n; m++) {
                if (isUnit(m)) {
                    next.add(multiplied(one, m));
                }
            }
            for (int other : next) {
                if (found.add(other)) {
                    open.add(other);
                }
            }
        }
        return found;
    }

    TreeSet<Integer> classes(int k, int kind) {
        List<Integer> key = List.of(k, kind);
        TreeSet<Integer> kept = keptClasses.get(key);
        if (kept == null) {
            kept = listed(k, kind);
            keptClasses.put(key, kept);
        }
        return kept;
    }

    /** All CLASSES of a KIND by their least SETS, those with SETS of k STEPS. */
    private TreeSet<Integer> listed(int k, int kind) {
        TreeSet<Integer> result = new TreeSet<>();
        Set<Integer> seen = new HashSet<>();
        for (int set = 0; set < 1 << n; set++) {
            if (stepsOf(set).size() == k && !seen.contains(set)) {
                seen.addAll(members(set, kind));
                result.add(set);
            }
        }
        return result;
    }

    List<Integer> orderFrom(int set, int start) {
        List<Integer> order = new ArrayList<>();
        for (int way = 0; way < n; way++) {
            if (stepsOf(set).contains(mod(start + way))) {
                order.add(mod(start + way));
            }
        }
        return order;
    }

    List<Integer> distances(List<Integer> order) {
        List<Integer> result = new ArrayList<>();
        for (int step : order) {
            result.add(mod(step - order.get(0)));
        }
        return result;
    }

    /** Below 0 if the first DISTANCES are lesser by a RULE, 0 if they are the same. */
    int compare(List<Integer> one, List<Integer> two, int rule) {
        int last = one.size() - 1;
        List<Integer> places = new ArrayList<>();
        for (int i = 0; i < last; i++) {
            places.add(i);
        }
        if (rule == 1) {
            Collections.reverse(places);
        }
        places.add(0, last);
        for (int place : places) {
            if (!one.get(place).equals(two.get(place))) {
                return one.get(place) - two.get(place);
            }
        }
        return 0;
    }

    List<Integer> normal(int set, int rule) {
        List<Integer> best = null;
        for (int start : stepsOf(set)) {
            List<Integer> order = orderFrom(set, start);
            if (best == null || compare(distances(order), distances(best), rule) < 0) {
                best = order;
            }
        }
        return best;
    }

    List<Integer> prime(int set, int rule) {
        List<Integer> own = distances(normal(set, rule));
        List<Integer> other = distances(normal(mirrored(set), rule));
        return compare(other, own, rule) < 0 ? other : own;
    }

    int differ(int k) {
        if (!keptDiffers.containsKey(k)) {
            int result = 0;
            for (int set : classes(k, 1)) {
                if (set != 0 && !prime(set, 0).equals(prime(set, 1))) {
                    result++;
                }
            }
            keptDiffers.put(k, result);
        }
        return keptDiffers.get(k);
    }

    List<Integer> vector(int set) {
        List<Integer> kept = keptVectors.get(set);
        if (kept == null) {
            kept = pairsApart(set);
            keptVectors.put(set, kept);
        }
        return kept;
    }

    int twin(int set) {
        for (int other = 0; other < 1 << n; other++) {
            if (Integer.bitCount(other) == Integer.bitCount(set)
                    && vector(other).equals(vector(set)) && !members(set, 1).contains(other)) {
                return other;
            }
        }
        return -3;
    }

    int others(int set) {
        int rest = 0;
        for (int s = 0; s < n; s++) {
            rest += stepsOf(set).contains(s) ? 0 : 1 << s;
        }
        return rest;
    }

    private List<Integer> pairsApart(int set) {
        List<Integer> result = new ArrayList<>();
        for (int d = 1; d <= n / 2; d++) {
            int pairs = 0;
            for (int a : stepsOf(set)) {
                for (int b : stepsOf(set)) {
                    if (a < b && Math.min(b - a, n - (b - a)) == d) {
                        pairs++;
                    }
                }
            }
            result.add(pairs);
        }
        return result;
    }

    int within(int set, int other, int kind) {
        int result = 0;
        for (int member : members(other, kind)) {
            if (stepsOf(set).containsAll(stepsOf(member))) {
                result++;
            }
        }
        return result;
    }

    int common(int set, int other, int t, boolean mirrored) {
        Set<Integer> both = new HashSet<>(stepsOf(set));
        both.retainAll(stepsOf(turned(mirrored ? mirrored(other) : other, t)));
        return both.size();
    }

    int best(int set, int other, boolean mirrored) {
        int best = 0;
        for (int t = 1; t < n; t++) {
            if (common(set, other, t, mirrored) > common(set, other, best, mirrored)) {
                best = t;
            }
        }
        return best;
    }

    int keeps(int set, boolean mirrored) {
        int result = 0;
        for (int t = 0; t < n; t++) {
            if (turned(mirrored ? mirrored(set) : set, t) == set) {
                result++;
            }
        }
        return result;
    }

    int even(int set) {
        List<Integer> steps = stepsOf(set);
        if (steps.isEmpty()) {
            return 0;
        }
        for (int j = 1; j < steps.size(); j++) {
            TreeSet<Integer> ways = new TreeSet<>();
            for (int s : steps) {
                ways.add(distances(orderFrom(set, s)).get(j));
            }
            if (ways.last() - ways.first() > 1) {
                return 0;
            }
        }
        return 1;
    }

    int spread(int k, int shift) {
        List<Integer> steps = new ArrayList<>();
        for (int i = 0; i < k; i++) {
            steps.add(Math.floorDiv(n * i + shift, k));
        }
        return bits(steps);
    }

    int generator(int set) {
        List<Integer> steps = stepsOf(set);
        for (int g = 0; g < n && !steps.isEmpty(); g++) {
            for (int s = 0; s < n; s++) {
                Set<Integer> chain = new TreeSet<>();
                for (int i = 0; i < steps.size(); i++) {
                    chain.add(mod(s + i * g));
                }
                if (chain.equals(new TreeSet<>(steps))) {
                    return g;
                }
            }
        }
        return -3;
    }

    List<Integer> form(List<Integer> row, int kind, int t) {
        List<Integer> result = new ArrayList<>();
        for (int step : row) {
            result.add(kind % 2 == 0 ? step : mod(-step));
        }
        int turn = t - result.get(0);
        for (int i = 0; i < n; i++) {
            result.set(i, mod(result.get(i) + turn));
        }
        if (kind >= 2) {
            Collections.reverse(result);
        }
        return result;
    }

    int forms(List<Integer> row) {
        Set<List<Integer>> unlike = new HashSet<>();
        for (int kind = 0; kind < 4; kind++) {
            for (int t = 0; t < n; t++) {
                unlike.add(form(row, kind, t));
            }
        }
        return unlike.size();
    }

    int table(List<Integer> row, int i, int j) {
        return form(row, 0, form(row, 1, row.get(0)).get(i)).get(j);
    }

    int unlike(List<Integer> row) {
        Set<Integer> intervals = new HashSet<>();
        for (int i = 1; i < row.size(); i++) {
            intervals.add(mod(row.get(i) - row.get(i - 1)));
        }
        return intervals.size() == row.size() - 1 ? 1 : 0;
    }

    int rows() {
        if (keptRows < 0) {
            keptRows = rowsFrom(List.of(0));
        }
        return keptRows;
    }

    /** Looks at every ROW, but for those whose INTERVALS are alike at their beginning already. */
    private int rowsFrom(List<Integer> begun) {
        if (unlike(begun) == 0) {
            return 0;
        }
        if (begun.size() == n) {
            return 1;
        }
        int result = 0;
        for (int step = 0; step < n; step++) {
            if (!begun.contains(step)) {
                List<Integer> longer = new ArrayList<>(begun);
                longer.add(step);
                result += rowsFrom(longer);
            }
        }
        return result;
    }

    List<Integer> fills(List<Integer> row, int kind) {
        List<Integer> result = new ArrayList<>();
        for (int t = 0; t < n; t++) {
            Set<Integer> half = new HashSet<>(form(row, kind, t).subList(0, n / 2));
            half.retainAll(row.subList(0, n / 2));
            if (half.isEmpty()) {
                result.add(t);
            }
        }
        return result;
    }

    int derived(List<Integer> row, int d, int kind) {
        Set<Integer> found = new HashSet<>();
        for (int from = 0; from < n; from += d) {
            found.add(members(bits(row.subList(from, from + d)), kind).first());
        }
        return found.size() == 1 ? 1 : 0;
    }

    Set<Integer> pieces(List<Integer> row, int d) {
        Set<Integer> result = new TreeSet<>();
        for (int from = 0; from + d <= n; from++) {
            result.add(bits(row.subList(from, from + d)));
        }
        return result;
    }

    int kept(List<Integer> row, int kind, int t, int d) {
        Set<Integer> both = pieces(row, d);
        both.retainAll(pieces(form(row, kind, t), d));
        return both.size();
    }

    /** Makes every round, and counts those that no motion makes less. */
    static long roundsOneByOne(int beads, int colours, boolean mirrored) {
        int[] round = new int[beads];
        long result = 0;
        while (true) {
            if (isLeastRound(round, mirrored)) {
                result++;
            }
            int place = beads - 1;
            while (place >= 0 && round[place] == colours - 1) {
                round[place] = 0;
                place--;
            }
            if (place < 0) {
                return result;
            }
            round[place]++;
        }
    }

    private static boolean isLeastRound(int[] round, boolean mirrored) {
        int beads = round.length;
        int[] other = new int[beads];
        for (int t = 0; t < beads; t++) {
            for (int way = 1; way >= (mirrored ? -1 : 1); way -= 2) {
                for (int i = 0; i < beads; i++) {
                    other[i] = round[((t + way * i) % beads + beads) % beads];
                }
                if (Arrays.compare(other, round) < 0) {
                    return false;
                }
            }
        }
        return true;
    }

    /** Burnside's sum over every single motion, its cycles counted one by one. */
    static long roundsByCycles(int beads, int colours, boolean mirrored) {
        BigInteger sum = BigInteger.ZERO;
        int motions = 0;
        for (int t = 0; t < beads; t++) {
            for (int way = 1; way >= (mirrored ? -1 : 1); way -= 2) {
                sum = sum.add(BigInteger.valueOf(colours).pow(cycles(beads, t, way)));
                motions++;
            }
        }
        BigInteger[] parts = sum.divideAndRemainder(BigInteger.valueOf(motions));
        if (parts[1].signum() != 0) {
            throw new IllegalStateException("Burnside's sum does not come out even");
        }
        return parts[0].longValueExact();
    }

    private static int cycles(int beads, int t, int way) {
        boolean[] seen = new boolean[beads];
        int result = 0;
        for (int i = 0; i < beads; i++) {
            if (!seen[i]) {
                result++;
                for (int at = i; !seen[at]; at = ((t + way * at) % beads + beads) % beads) {
                    seen[at] = true;
                }
            }
        }
        return result;
    }
}
