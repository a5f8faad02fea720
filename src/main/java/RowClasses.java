/**
 * Sets and rows of equal steps round a circle. The document ../shared/DOC.md tells what every call
 * promises; words in capitals here are its terms.
 */
public final class RowClasses {
    private static final int MOST_STEPS = 12;
    /** The CLASSES of KIND 0 of 12 STEPS: no other number of STEPS and no other KIND has more. */
    private static final int MOST_CLASSES = 352;
    private static final int MOST_BEADS = 24;
    private static final int MOST_COLOURS = 6;

    private static final int BY_TURNING = 0;
    private static final int BY_MIRRORING = 1;
    private static final int BY_UNITS = 2;

    private static final int LAST_FORM_KIND = 3;

    private static final int NO_PLACE = -1;
    private static final int OUT_OF_BOUNDS = -2;
    private static final int NONE = -3;

    private final Circle circle;
    private final Orders orders;
    private final ClassList turnedClasses;
    private final ClassList mirroredClasses;
    private final ClassList unitClasses;
    private final Row row;
    private final UnlikeRows unlikeRows;

    public RowClasses() {
        circle = new Circle();
        orders = new Orders(circle);
        turnedClasses = new ClassList(circle, BY_TURNING);
        mirroredClasses = new ClassList(circle, BY_MIRRORING);
        unitClasses = new ClassList(circle, BY_UNITS);
        row = new Row(circle);
        unlikeRows = new UnlikeRows();
    }

    public int steps(int n) throws ArithmeticException {
        if (n == 0) {
            throw new ArithmeticException("there is no circle of 0 steps");
        }
        if (n < 0 || n > MOST_STEPS) {
            return OUT_OF_BOUNDS;
        }
        int left = circle.count() % n;
        circle.become(n);
        turnedClasses.forget();
        mirroredClasses.forget();
        unitClasses.forget();
        row.empty();
        return left;
    }

    // ---- classes

    public int least(int set, int kind) {
        if (!circle.hasSet(set) || !isClassKind(kind)) {
            return OUT_OF_BOUNDS;
        }
        return circle.leastOf(set, kind);
    }

    public int size(int set, int kind) {
        if (!circle.hasSet(set) || !isClassKind(kind)) {
            return OUT_OF_BOUNDS;
        }
        return circle.membersInside(set, kind, circle.all());
    }

    public int classes(int k, int kind) {
        if (!isSetSize(k) || !isClassKind(kind)) {
            return OUT_OF_BOUNDS;
        }
        return listOf(kind).countOfSize(k);
    }

    public int nth(int k, int kind, int i) {
        if (!isSetSize(k) || !isClassKind(kind)) {
            return OUT_OF_BOUNDS;
        }
        return listOf(kind).ofSize(k, i);
    }

    // ---- orders

    public int normal(int set, int rule, int i) {
        int refusal = orderRefusal(set, rule, i);
        if (refusal < 0) {
            return refusal;
        }
        int start = orders.normalStart(set, rule);
        return circle.wrapped(start + circle.stepAt(orders.distances(set, start), i));
    }

    public int prime(int set, int rule, int i) {
        int refusal = orderRefusal(set, rule, i);
        if (refusal < 0) {
            return refusal;
        }
        return circle.stepAt(orders.primeDistances(set, rule), i);
    }

    public int differ(int k) {
        if (!isSetSize(k)) {
            return OUT_OF_BOUNDS;
        }
        int differing = 0;
        int classCount = mirroredClasses.count();
        for (int c = 0; c < classCount; c++) {
            int set = mirroredClasses.at(c);
            if (Integer.bitCount(set) == k && orders.primesDiffer(set)) {
                differing++;
            }
        }
        return differing;
    }

    // ---- sets

    public int vector(int set, int d) {
        if (!circle.hasSet(set) || d < 1 || d > circle.count() / 2) {
            return OUT_OF_BOUNDS;
        }
        int upward = circle.pairsApart(set, d);
        // Two STEPS half the circle apart are d apart upward from either of them.
        return d * 2 == circle.count() ? upward / 2 : upward;
    }

    public int twin(int set) {
        if (!circle.hasSet(set)) {
            return OUT_OF_BOUNDS;
        }
        int own = circle.leastOf(set, BY_MIRRORING);
        int classCount = mirroredClasses.count();
        // A least SET is the least of its CLASS, so the CLASSES alone need to be looked at.
        for (int c = 0; c < classCount; c++) {
            int other = mirroredClasses.at(c);
            if (other != own && sameVector(set, other)) {
                return other;
            }
        }
        return NONE;
    }

    public int others(int set) {
        if (!circle.hasSet(set)) {
            return OUT_OF_BOUNDS;
        }
        return circle.all() & ~set;
    }

    public int multiplied(int set, int m) {
        if (!circle.hasSet(set) || !circle.hasStep(m)) {
            return OUT_OF_BOUNDS;
        }
        return circle.timesEach(set, m);
    }

    public int within(int set, int other, int kind) {
        if (!circle.hasSet(set) || !circle.hasSet(other) || !isClassKind(kind)) {
            return OUT_OF_BOUNDS;
        }
        return circle.membersInside(other, kind, set);
    }

    public int common(int set, int other, int t, boolean mirrored) {
        if (!circle.hasSet(set) || !circle.hasSet(other) || !circle.hasStep(t)) {
            return OUT_OF_BOUNDS;
        }
        return Integer.bitCount(set & circle.turned(circle.mirroredIf(other, mirrored), t));
    }

    public int best(int set, int other, boolean mirrored) {
        if (!circle.hasSet(set) || !circle.hasSet(other)) {
            return OUT_OF_BOUNDS;
        }
        int moved = circle.mirroredIf(other, mirrored);
        int bestTurn = 0;
        int most = -1;
        for (int t = 0; t < circle.count(); t++) {
            int shared = Integer.bitCount(set & circle.turned(moved, t));
            if (shared > most) {
                most = shared;
                bestTurn = t;
            }
        }
        return bestTurn;
    }

    public int keeps(int set, boolean mirrored) {
        if (!circle.hasSet(set)) {
            return OUT_OF_BOUNDS;
        }
        int moved = circle.mirroredIf(set, mirrored);
        int keeping = 0;
        for (int t = 0; t < circle.count(); t++) {
            if (circle.turned(moved, t) == set) {
                keeping++;
            }
        }
        return keeping;
    }

    public int even(int set) {
        if (!circle.hasSet(set)) {
            return OUT_OF_BOUNDS;
        }
        if (set == 0) {
            return 0;
        }
        int size = Integer.bitCount(set);
        for (int j = 1; j < size; j++) {
            if (!circle.hasLikeWays(set, j)) {
                return 0;
            }
        }
        return 1;
    }

    public int spread(int k, int shift) {
        if (k < 1 || k > circle.count() || !circle.hasStep(shift)) {
            return OUT_OF_BOUNDS;
        }
        int set = 0;
        for (int i = 0; i < k; i++) {
            set |= 1 << ((circle.count() * i + shift) / k);
        }
        return set;
    }

    public int generator(int set) {
        if (!circle.hasSet(set)) {
            return OUT_OF_BOUNDS;
        }
        if (set == 0) {
            return NONE;
        }
        for (int g = 0; g < circle.count(); g++) {
            if (isChain(set, g)) {
                return g;
            }
        }
        return NONE;
    }

    // ---- the row

    public int add(int step) {
        if (!circle.hasStep(step)) {
            return OUT_OF_BOUNDS;
        }
        if (row.has(step)) {
            return NONE;
        }
        row.append(step);
        return row.length();
    }

    public int clear() {
        int had = row.length();
        row.empty();
        return had;
    }

    public int form(int kind, int t, int i) {
        if (!isFormKind(kind) || !circle.hasStep(t)) {
            return OUT_OF_BOUNDS;
        }
        if (!row.isWhole()) {
            return NONE;
        }
        if (!row.hasPlace(i)) {
            return NO_PLACE;
        }
        return row.formStep(kind, t, i);
    }

    public int forms() {
        if (!row.isWhole()) {
            return NONE;
        }
        int all = 0;
        int likeTheRow = 0;
        for (int kind = 0; kind <= LAST_FORM_KIND; kind++) {
            for (int t = 0; t < circle.count(); t++) {
                all++;
                if (row.isFormItself(kind, t)) {
                    likeTheRow++;
                }
            }
        }
        // The motions are a group, so each unlike FORM comes as often as THE ROW itself does.
        return quotient(all, likeTheRow);
    }

    public int table(int i, int j) {
        if (!row.isWhole()) {
            return NONE;
        }
        if (!row.hasPlace(i) || !row.hasPlace(j)) {
            return NO_PLACE;
        }
        return row.formStep(0, row.formStep(1, row.at(0), i), j);
    }

    public int unlike() {
        if (!row.isWhole()) {
            return NONE;
        }
        return row.hasUnlikeIntervals() ? 1 : 0;
    }

    public int rows() {
        return unlikeRows.countFor(circle.count());
    }

    public int fills(int kind, int i) {
        if (!isFormKind(kind)) {
            return OUT_OF_BOUNDS;
        }
        if (!row.isWhole() || circle.count() % 2 != 0) {
            return NONE;
        }
        int half = circle.count() / 2;
        int own = row.piece(0, half);
        int found = 0;
        for (int t = 0; t < circle.count(); t++) {
            if ((row.formPiece(kind, t, 0, half) & own) == 0) {
                if (found == i) {
                    return t;
                }
                found++;
            }
        }
        return NO_PLACE;
    }

    public int derived(int d, int kind) {
        if (!isClassKind(kind) || d < 1 || d > circle.count() || circle.count() % d != 0) {
            return OUT_OF_BOUNDS;
        }
        if (!row.isWhole()) {
            return NONE;
        }
        int first = circle.leastOf(row.piece(0, d), kind);
        for (int from = d; from < circle.count(); from += d) {
            if (circle.leastOf(row.piece(from, d), kind) != first) {
                return 0;
            }
        }
        return 1;
    }

    public int kept(int kind, int t, int d) {
        if (!isFormKind(kind) || !circle.hasStep(t) || d < 1 || d > circle.count()) {
            return OUT_OF_BOUNDS;
        }
        if (!row.isWhole()) {
            return NONE;
        }
        int keeping = 0;
        for (int from = 0; from + d <= circle.count(); from++) {
            if (row.formHasPiece(kind, t, row.piece(from, d))) {
                keeping++;
            }
        }
        return keeping;
    }

    // ---- rounds

    public long rounds(int beads, int colours, boolean mirrored) {
        if (beads < 1 || beads > MOST_BEADS || colours < 1 || colours > MOST_COLOURS) {
            return OUT_OF_BOUNDS;
        }
        long byTurning = meanKeptByTurning(beads, colours);
        return mirrored ? (byTurning + meanKeptByTurningOver(beads, colours)) / 2 : byTurning;
    }

    // ---- what the calls share

    private ClassList listOf(int kind) {
        if (kind == BY_TURNING) {
            return turnedClasses;
        }
        return kind == BY_MIRRORING ? mirroredClasses : unitClasses;
    }

    private boolean isSetSize(int k) {
        return k >= 0 && k <= circle.count();
    }

    private static boolean isClassKind(int kind) {
        return kind >= BY_TURNING && kind <= BY_UNITS;
    }

    private static boolean isFormKind(int kind) {
        return kind >= 0 && kind <= LAST_FORM_KIND;
    }

    /** The refusal of a call for place i of an ORDER, or 0 if there is such a place. */
    private int orderRefusal(int set, int rule, int i) {
        if (!circle.hasSet(set) || rule < 0 || rule > 1) {
            return OUT_OF_BOUNDS;
        }
        if (set == 0) {
            return NONE;
        }
        return i < 0 || i >= Integer.bitCount(set) ? NO_PLACE : 0;
    }

    private boolean sameVector(int set, int other) {
        if (Integer.bitCount(set) != Integer.bitCount(other)) {
            return false;
        }
        for (int d = 1; d <= circle.count() / 2; d++) {
            if (circle.pairsApart(set, d) != circle.pairsApart(other, d)) {
                return false;
            }
        }
        return true;
    }

    private boolean isChain(int set, int g) {
        int size = Integer.bitCount(set);
        for (int start = 0; start < circle.count(); start++) {
            int chain = 0;
            for (int i = 0; i < size; i++) {
                chain |= 1 << circle.wrapped(start + i * g);
            }
            if (chain == set) {
                return true;
            }
        }
        return false;
    }

    /** How many colourings a turning keeps, on the average of all: by Burnside, the rounds. */
    private static long meanKeptByTurning(int beads, int colours) {
        long kept = 0;
        for (int t = 1; t <= beads; t++) {
            kept += power(colours, commonDivisor(t, beads));
        }
        return beads < 1 ? 0 : kept / beads;
    }

    /**
     * The same for turning over. An odd number of beads has one axis through a bead and a gap; of
     * an even number half the axes go through two gaps, half through two beads.
     */
    private static long meanKeptByTurningOver(int beads, int colours) {
        return (power(colours, (beads + 1) / 2) + power(colours, beads / 2 + 1)) / 2;
    }

    private static long power(int base, int exponent) {
        long result = 1;
        for (int i = 0; i < exponent; i++) {
            result *= base;
        }
        return result;
    }

    /** The greatest one of b, which is above 0, and any a: with 0 it is b. */
    private static int commonDivisor(int a, int b) {
        for (int d = b; d > 1; d--) {
            if (a % d == 0 && b % d == 0) {
                return d;
            }
        }
        return 1;
    }

    private static int quotient(int whole, int part) {
        return part == 0 ? 0 : whole / part;
    }

    /** The STEPS, and the motions of SETS of them; a SET is told by its bits. */
    private static final class Circle {
        private int n;
        private int everyStep;

        Circle() {
            n = MOST_STEPS;
            everyStep = (1 << MOST_STEPS) - 1;
        }

        int count() {
            return n;
        }

        void become(int steps) {
            n = steps;
            everyStep = (1 << steps) - 1;
        }

        int all() {
            return everyStep;
        }

        boolean hasStep(int number) {
            return number >= 0 && number < n;
        }

        boolean hasSet(int set) {
            return set >= 0 && set <= everyStep;
        }

        int wrapped(int number) {
            int left = n < 1 ? 0 : number % n;
            return left < 0 ? left + n : left;
        }

        /** The SET's i-th STEP from below, -1 if it has not so many. */
        int stepAt(int set, int i) {
            int before = 0;
            for (int step = 0; step < n; step++) {
                if (((set >> step) & 1) == 1) {
                    if (before == i) {
                        return step;
                    }
                    before++;
                }
            }
            return -1;
        }

        /** TURNED by t of 0 .. n. */
        int turned(int set, int t) {
            return ((set << t) | (set >> (n - t))) & everyStep;
        }

        int timesEach(int set, int m) {
            int result = 0;
            for (int step = 0; step < n; step++) {
                if (((set >> step) & 1) == 1) {
                    result |= 1 << wrapped(step * m);
                }
            }
            return result;
        }

        int mirroredIf(int set, boolean mirrored) {
            return mirrored ? timesEach(set, n - 1) : set;
        }

        /** Whether MULTIPLYING by m is among the motions of a KIND, besides TURNING. */
        boolean isMultiplier(int m, int kind) {
            if (kind == BY_UNITS) {
                return commonDivisor(m, n) == 1;
            }
            return m == wrapped(1) || kind == BY_MIRRORING && m == n - 1;
        }

        int leastOf(int set, int kind) {
            int least = set;
            for (int m = 0; m < n; m++) {
                if (isMultiplier(m, kind)) {
                    least = Math.min(least, leastTurned(timesEach(set, m)));
                }
            }
            return least;
        }

        int leastTurned(int set) {
            int least = set;
            for (int t = 1; t < n; t++) {
                least = Math.min(least, turned(set, t));
            }
            return least;
        }

        /** As leastTurned(set) == set, but most SETS are seen not to be at the first few turns. */
        boolean isLeastTurned(int set) {
            for (int t = 1; t < n; t++) {
                if (turned(set, t) < set) {
                    return false;
                }
            }
            return true;
        }

        /**
         * How many SETS of the CLASS of set lie inside a place. The motions are a group, so each
         * SET of the CLASS is made by as many motions as set is itself.
         */
        int membersInside(int set, int kind, int place) {
            return quotient(motionsInto(set, kind, place), motionsInto(set, kind, set));
        }

        private int motionsInto(int set, int kind, int place) {
            int motions = 0;
            for (int m = 0; m < n; m++) {
                if (isMultiplier(m, kind)) {
                    motions += turnsInto(timesEach(set, m), place);
                }
            }
            return motions;
        }

        private int turnsInto(int set, int place) {
            int turns = 0;
            for (int t = 0; t < n; t++) {
                if ((turned(set, t) & ~place) == 0) {
                    turns++;
                }
            }
            return turns;
        }

        /** From how many STEPS of a SET it is d upward to another one. */
        int pairsApart(int set, int d) {
            return Integer.bitCount(set & turned(set, d));
        }

        /** Whether the ways from each STEP to the j-th one behind it differ by 1 at most. */
        boolean hasLikeWays(int set, int j) {
            int shortest = n;
            int longest = 0;
            int size = Integer.bitCount(set);
            for (int i = 0; i < size; i++) {
                int to = i + j < size ? i + j : i + j - size;
                int way = wrapped(stepAt(set, to) - stepAt(set, i));
                shortest = Math.min(shortest, way);
                longest = Math.max(longest, way);
            }
            return longest - shortest <= 1;
        }
    }

    /** The CLASSES of one KIND, listed when they are first asked for, the least first. */
    private static final class ClassList {
        private final Circle circle;
        private final int kind;
        private final int[] leasts;
        /** 0 while nothing is listed: the empty SET always has a CLASS. */
        private int listed;

        ClassList(Circle circle, int kind) {
            this.circle = circle;
            this.kind = kind;
            leasts = new int[MOST_CLASSES];
            listed = 0;
        }

        void forget() {
            listed = 0;
        }

        int count() {
            if (listed == 0) {
                list();
            }
            return listed;
        }

        int at(int i) {
            return i >= 0 && i < listed && i < MOST_CLASSES ? leasts[i] : 0;
        }

        int countOfSize(int k) {
            int found = 0;
            int all = count();
            for (int c = 0; c < all; c++) {
                if (Integer.bitCount(at(c)) == k) {
                    found++;
                }
            }
            return found;
        }

        /** The i-th with SETS of k STEPS, or the refusal if there are not so many. */
        int ofSize(int k, int i) {
            int before = 0;
            int all = count();
            for (int c = 0; c < all; c++) {
                if (Integer.bitCount(at(c)) == k) {
                    if (before == i) {
                        return at(c);
                    }
                    before++;
                }
            }
            return NO_PLACE;
        }

        private void list() {
            keep(0);
            // A least SET that is not empty has STEP 0, else TURNING would make it less.
            for (int set = 1; set <= circle.all(); set += 2) {
                if (circle.isLeastTurned(set) && circle.leastOf(set, kind) == set) {
                    keep(set);
                }
            }
        }

        private void keep(int set) {
            if (listed < MOST_CLASSES) {
                leasts[listed] = set;
                listed++;
            }
        }
    }

    /**
     * NORMAL ORDERS and PRIME FORMS. DISTANCES rise from 0 and stay below n, so they are told by
     * bits as a SET is: they are the SET, TURNED so that the first STEP comes to be 0.
     */
    private static final class Orders {
        private final Circle circle;

        Orders(Circle circle) {
            this.circle = circle;
        }

        int distances(int set, int start) {
            return circle.turned(set, circle.count() - start);
        }

        int normalStart(int set, int rule) {
            int best = circle.stepAt(set, 0);
            for (int start = best + 1; start < circle.count(); start++) {
                if (((set >> start) & 1) == 1
                        && isLesser(distances(set, start), distances(set, best), rule)) {
                    best = start;
                }
            }
            return best;
        }

        int primeDistances(int set, int rule) {
            int mirrored = circle.mirroredIf(set, true);
            int own = distances(set, normalStart(set, rule));
            int other = distances(mirrored, normalStart(mirrored, rule));
            return isLesser(other, own, rule) ? other : own;
        }

        /** Whether the RULES give unlike PRIME FORMS; the empty SET has none that could be. */
        boolean primesDiffer(int set) {
            return set != 0 && primeDistances(set, 0) != primeDistances(set, 1);
        }

        /** Both have as many DISTANCES. */
        private boolean isLesser(int distances, int others, int rule) {
            int last = Integer.bitCount(distances) - 1;
            int far = circle.stepAt(distances, last);
            int otherFar = circle.stepAt(others, last);
            if (rule == 0 && far == otherFar) {
                return isLesserFromFirst(distances, others);
            }
            // From the last one on, the DISTANCES weigh as their bits do in the number.
            return distances < others;
        }

        /** Where they first differ, the lesser one has the lower bit, and the other has not. */
        private static boolean isLesserFromFirst(int distances, int others) {
            int unlike = distances ^ others;
            int lowest = unlike & -unlike;
            return (distances & lowest) != 0;
        }
    }

    /** THE ROW; what asks for its FORMS or PIECES has seen before that it is WHOLE. */
    private static final class Row {
        private final Circle circle;
        private final int[] order;
        private int taken;
        private int members;

        Row(Circle circle) {
            this.circle = circle;
            order = new int[MOST_STEPS];
            taken = 0;
            members = 0;
        }

        void empty() {
            taken = 0;
            members = 0;
        }

        int length() {
            return taken;
        }

        boolean isWhole() {
            return taken == circle.count();
        }

        boolean hasPlace(int i) {
            return i >= 0 && i < taken;
        }

        boolean has(int step) {
            return ((members >> step) & 1) == 1;
        }

        void append(int step) {
            if (taken < MOST_STEPS) {
                order[taken] = step;
                taken++;
                members |= 1 << step;
            }
        }

        int at(int i) {
            return hasPlace(i) && i < MOST_STEPS ? order[i] : 0;
        }

        int formStep(int kind, int t, int i) {
            boolean fromTheEnd = kind >= 2;
            boolean mirrored = kind % 2 == 1;
            int way = at(fromTheEnd ? taken - 1 - i : i) - at(0);
            return circle.wrapped(mirrored ? t - way : t + way);
        }

        boolean isFormItself(int kind, int t) {
            for (int i = 0; i < taken; i++) {
                if (formStep(kind, t, i) != at(i)) {
                    return false;
                }
            }
            return true;
        }

        int piece(int from, int d) {
            int set = 0;
            for (int i = from; i < from + d; i++) {
                set |= 1 << at(i);
            }
            return set;
        }

        int formPiece(int kind, int t, int from, int d) {
            int set = 0;
            for (int i = from; i < from + d; i++) {
                set |= 1 << formStep(kind, t, i);
            }
            return set;
        }

        boolean formHasPiece(int kind, int t, int piece) {
            int d = Integer.bitCount(piece);
            for (int from = 0; from + d <= taken; from++) {
                if (formPiece(kind, t, from, d) == piece) {
                    return true;
                }
            }
            return false;
        }

        boolean hasUnlikeIntervals() {
            int seen = 0;
            for (int i = 1; i < taken; i++) {
                int interval = 1 << circle.wrapped(at(i) - at(i - 1));
                if ((seen & interval) != 0) {
                    return false;
                }
                seen |= interval;
            }
            return true;
        }
    }

    /**
     * Counts the WHOLE ROWS from 0 whose INTERVALS are all unlike, once for each number of STEPS:
     * the search is the dearest of all calls. Such INTERVALS are 1 .. n - 1, once each, and come to
     * n / 2 in all if n is even, to 0 if it is odd; so every such ROW ends there.
     */
    private static final class UnlikeRows {
        /** By number of STEPS; 0 while not counted. */
        private final int[] counted;

        UnlikeRows() {
            counted = new int[MOST_STEPS + 1];
        }

        int countFor(int n) {
            if (n < 1 || n > MOST_STEPS) {
                return 0;
            }
            if (n % 2 == 1) {
                // It would have to end with 0, where it begins.
                return n == 1 ? 1 : 0;
            }
            if (counted[n] == 0) {
                counted[n] = search(n);
            }
            return counted[n];
        }

        /**
         * MULTIPLYING by UNITS leads from a first STEP to all those with the same common divisor
         * with n, and from ROW to ROW: so one of these stands for all. n / 2 is left out of the
         * search: when every other STEP is in, the one INTERVAL left leads there.
         */
        private static int search(int n) {
            int allButZero = (1 << n) - 2;
            int steps = allButZero & ~(1 << (n / 2));
            if (steps == 0) {
                return 1;
            }
            int total = 0;
            for (int first = 1; first < n / 2; first++) {
                if (n % first == 0) {
                    int taken = 1 << first;
                    total += alikeFirst(n, first)
                            * endings(n, first, steps & ~taken, allButZero & ~taken, n - 3);
                }
            }
            return total;
        }

        private static int alikeFirst(int n, int first) {
            int alike = 0;
            for (int step = 1; step < n; step++) {
                if (commonDivisor(step, n) == first) {
                    alike++;
                }
            }
            return alike;
        }

        /** In how many ways a ROW goes on from a STEP through all the free STEPS, left of them. */
        private static int endings(int n, int step, int steps, int intervals, int left) {
            if (left <= 0) {
                return 1;
            }
            int reached = ((intervals << step) | (intervals >> (n - step))) & steps;
            if (reached == 0) {
                return 0;
            }
            int ways = 0;
            for (int next = 1; next < n; next++) {
                if (((reached >> next) & 1) == 1) {
                    int interval = next > step ? next - step : next - step + n;
                    ways += endings(n, next, steps & ~(1 << next),
                            intervals & ~(1 << interval), left - 1);
                }
            }
            return ways;
        }
    }
}
