/** Promises 7 to 9: normal, prime, differ. */
public final class OrdersTest {
    public static void main(String[] args) {
        normal();
        normalRefused();
        prime();
        primeRefused();
        differ();
        differRefused();
        Check.end("OrdersTest");
    }

    private static void isNormal(RowClasses x, int set, int rule, int... due) {
        for (int i = 0; i < due.length; i++) {
            Check.due("normal(" + set + ", " + rule + ", " + i + ")",
                    x.normal(set, rule, i), due[i]);
        }
        Check.due("normal(" + set + ", " + rule + ", " + due.length + ")",
                x.normal(set, rule, due.length), -1);
    }

    private static void isPrime(RowClasses x, int set, int rule, int... due) {
        for (int i = 0; i < due.length; i++) {
            Check.due("prime(" + set + ", " + rule + ", " + i + ")", x.prime(set, rule, i), due[i]);
        }
        Check.due("prime(" + set + ", " + rule + ", " + due.length + ")",
                x.prime(set, rule, due.length), -1);
    }

    private static void normal() {
        RowClasses x = new RowClasses();
        for (int rule = 0; rule <= 1; rule++) {
            isNormal(x, Check.set(2, 7, 10), rule, 7, 10, 2);
            isNormal(x, Check.set(0, 11), rule, 11, 0);
            isNormal(x, Check.set(5), rule, 5);
            // Of several alike, the one that begins with the least STEP.
            isNormal(x, Check.set(2, 5, 8, 11), rule, 2, 5, 8, 11);
            isNormal(x, Check.set(1, 7), rule, 1, 7);
            isNormal(Check.circle(1), 1, rule, 0);
            isNormal(Check.circle(2), 3, rule, 0, 1);
        }
        // 0 1 3 7 8 and, from 7, 0 1 5 6 8 are the orders within 8.
        isNormal(x, Check.set(0, 1, 3, 7, 8), 0, 0, 1, 3, 7, 8);
        isNormal(x, Check.set(0, 1, 3, 7, 8), 1, 7, 8, 0, 1, 3);
    }

    private static void normalRefused() {
        RowClasses x = new RowClasses();
        refusedOnce("normal", (set, rule, i) -> x.normal(set, rule, i));
    }

    private static void prime() {
        RowClasses x = new RowClasses();
        for (int rule = 0; rule <= 1; rule++) {
            isPrime(x, Check.set(0, 4, 7), rule, 0, 3, 7);
            isPrime(x, Check.set(2, 5, 9), rule, 0, 3, 7);
            isPrime(x, Check.set(0, 1, 4, 6), rule, 0, 1, 4, 6);
            isPrime(x, Check.set(11), rule, 0);
            isPrime(x, 4095, rule, 0, 1, 2, 3, 4, 5, 6, 7, 8, 9, 10, 11);
            isPrime(x, 2741, rule, 0, 1, 3, 5, 6, 8, 10);
            isPrime(Check.circle(7), Check.set(0, 2, 3), rule, 0, 1, 3);
        }
        isPrime(x, Check.set(0, 1, 3, 7, 8), 0, 0, 1, 3, 7, 8);
        isPrime(x, Check.set(0, 1, 3, 7, 8), 1, 0, 1, 5, 6, 8);
        isPrime(x, Check.set(0, 2, 3, 6, 7, 9), 0, 0, 1, 3, 6, 8, 9);
        isPrime(x, Check.set(0, 2, 3, 6, 7, 9), 1, 0, 2, 3, 6, 7, 9);
    }

    private static void primeRefused() {
        RowClasses x = new RowClasses();
        refusedOnce("prime", (set, rule, i) -> x.prime(set, rule, i));
    }

    private static void differ() {
        // The six CLASSES in which the two rules of the textbooks are known to differ.
        int[] due = {0, 0, 0, 0, 0, 1, 2, 2, 1, 0, 0, 0, 0};
        RowClasses x = new RowClasses();
        for (int k = 0; k <= 12; k++) {
            Check.due("differ(" + k + ")", x.differ(k), due[k]);
        }
        Check.due("1: differ(0)", Check.circle(1).differ(0), 0);
        Check.due("1: differ(1)", Check.circle(1).differ(1), 0);
    }

    private static void differRefused() {
        for (int k : new int[] {-1, 13, Integer.MIN_VALUE, Integer.MAX_VALUE}) {
            Check.due("differ(" + k + ")", new RowClasses().differ(k), -2);
        }
        Check.due("7: differ(8)", Check.circle(7).differ(8), -2);
    }

    private interface Call {
        int answer(int set, int rule, int i);
    }

    /** -2 before -3 before -1. */
    private static void refusedOnce(String name, Call call) {
        int[][] due = {
            {4096, 0, 0, -2}, {-1, 0, 0, -2}, {Integer.MIN_VALUE, 0, -1, -2},
            {1, -1, 0, -2}, {1, 2, 0, -2}, {0, 2, 0, -2}, {0, -1, 9, -2},
            {1, Integer.MAX_VALUE, 5, -2}, {4096, 0, -1, -2},
            {0, 0, 0, -3}, {0, 1, 0, -3}, {0, 1, -1, -3}, {0, 0, 1, -3},
            {7, 0, -1, -1}, {7, 1, 3, -1}, {7, 0, Integer.MAX_VALUE, -1},
            {7, 0, Integer.MIN_VALUE, -1}, {4095, 1, 12, -1},
        };
        for (int[] one : due) {
            Check.due(name + "(" + one[0] + ", " + one[1] + ", " + one[2] + ")",
                    call.answer(one[0], one[1], one[2]), one[3]);
        }
    }
}
