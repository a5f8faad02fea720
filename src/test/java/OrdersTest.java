import java.util.Arrays;

/** Promises 7 to 9: normal, prime, differ. */
public final class OrdersTest {
    private static final int[] NO_RULES =
            {-1, 2, 3, Integer.MIN_VALUE, Integer.MIN_VALUE + 1, Integer.MAX_VALUE};
    private static final int LEAST = Integer.MIN_VALUE;
    private static final int GREATEST = Integer.MAX_VALUE;

    private interface Call {
        int answer(RowClasses x, int set, int rule, int i);
    }

    public static void main(String[] args) {
        normal();
        normalGoesRound();
        prime();
        primeOfOneAndAll();
        refusals("promise 7: ", RowClasses::normal);
        refusals("promise 8: ", RowClasses::prime);
        twoRefusals("promise 7: ", RowClasses::normal);
        twoRefusals("promise 8: ", RowClasses::prime);
        places("promise 7: ", RowClasses::normal);
        places("promise 8: ", RowClasses::prime);
        differ();
        differOfNoneAndAll();
        differBounds();
        refusalsChangeNothing();
        Check.end("OrdersTest");
    }

    private static void isNormal(RowClasses x, int set, int rule, int... due) {
        for (int i = 0; i < due.length; i++) {
            Check.due("normal(" + set + ", " + rule + ", " + i + ")",
                    x.normal(set, rule, i), due[i]);
        }
        Check.due("normal(" + set + ", " + rule + ", " + due.length + ")",
                x.normal(set, rule, due.length), -1);
    }

    private static void isPrime(RowClasses x, int set, int rule, int... due) {
        for (int i = 0; i < due.length; i++) {
            Check.due("prime(" + set + ", " + rule + ", " + i + ")", x.prime(set, rule, i), due[i]);
        }
        Check.due("prime(" + set + ", " + rule + ", " + due.length + ")",
                x.prime(set, rule, due.length), -1);
    }

    private static void normal() {
        Check.sentence("promise 7: STEP i, from 0, of THE NORMAL ORDER");
        RowClasses x = new RowClasses();
        for (int rule = 0; rule <= 1; rule++) {
            isNormal(x, Check.set(0, 4, 7), rule, 0, 4, 7);
            isNormal(x, Check.set(5), rule, 5);
            isNormal(Check.circle(1), 1, rule, 0);
            isNormal(Check.circle(2), 1, rule, 0);
            isNormal(Check.circle(2), 2, rule, 1);
            isNormal(Check.circle(2), 3, rule, 0, 1);
            isNormal(Check.circle(11), Check.set(0, 5), rule, 0, 5);
            isNormal(Check.circle(11), Check.set(0, 6), rule, 6, 0);
        }
        // 0 1 3 7 8 and, from 7, 0 1 5 6 8 are the orders within 8.
        isNormal(x, Check.set(0, 1, 3, 7, 8), 0, 0, 1, 3, 7, 8);
        isNormal(x, Check.set(0, 1, 3, 7, 8), 1, 7, 8, 0, 1, 3);
    }

    private static void normalGoesRound() {
        Check.sentence("promise 7: behind n - 1 it goes on with 0");
        RowClasses x = new RowClasses();
        for (int rule = 0; rule <= 1; rule++) {
            isNormal(x, Check.set(2, 7, 10), rule, 7, 10, 2);
            isNormal(x, Check.set(0, 11), rule, 11, 0);
            isNormal(x, Check.set(0, 1, 10, 11), rule, 10, 11, 0, 1);
            // All but one: it begins behind the gap.
            isNormal(x, 4095 - Check.set(0), rule, 1, 2, 3, 4, 5, 6, 7, 8, 9, 10, 11);
            isNormal(x, 4095 - Check.set(11), rule, 0, 1, 2, 3, 4, 5, 6, 7, 8, 9, 10);
            isNormal(x, 4095 - Check.set(5), rule, 6, 7, 8, 9, 10, 11, 0, 1, 2, 3, 4);
            isNormal(Check.circle(5), Check.set(0, 1, 4), rule, 4, 0, 1);
        }
    }

    private static void prime() {
        Check.sentence("promise 8: Number i, from 0, of THE PRIME FORM");
        RowClasses x = new RowClasses();
        for (int rule = 0; rule <= 1; rule++) {
            isPrime(x, Check.set(0, 4, 7), rule, 0, 3, 7);
            isPrime(x, Check.set(2, 5, 9), rule, 0, 3, 7);
            isPrime(x, Check.set(0, 1, 4, 6), rule, 0, 1, 4, 6);
            isPrime(x, 2741, rule, 0, 1, 3, 5, 6, 8, 10);
            isPrime(x, Check.set(0, 11), rule, 0, 1);
            isPrime(x, Check.set(3, 9), rule, 0, 6);
            isPrime(Check.circle(7), Check.set(0, 2, 3), rule, 0, 1, 3);
        }
        isPrime(x, Check.set(0, 1, 3, 7, 8), 0, 0, 1, 3, 7, 8);
        isPrime(x, Check.set(0, 1, 3, 7, 8), 1, 0, 1, 5, 6, 8);
        isPrime(x, Check.set(0, 2, 3, 6, 7, 9), 0, 0, 1, 3, 6, 8, 9);
        isPrime(x, Check.set(0, 2, 3, 6, 7, 9), 1, 0, 2, 3, 6, 7, 9);
    }

    private static void primeOfOneAndAll() {
        Check.sentence("promise 8: of one STEP, of all but one and of all STEPS");
        for (int n = 1; n <= 12; n++) {
            for (int rule = 0; rule <= 1; rule++) {
                RowClasses x = Check.circle(n);
                int[] rising = new int[n];
                for (int i = 0; i < n; i++) {
                    rising[i] = i;
                }
                isPrime(x, 1, rule, 0);
                isPrime(x, 1 << (n - 1), rule, 0);
                isPrime(x, Check.all(n), rule, rising);
                if (n > 1) {
                    isPrime(x, Check.all(n) - (1 << n / 2), rule, Arrays.copyOf(rising, n - 1));
                }
            }
        }
    }

    private static void refusals(String promise, Call call) {
        for (int n = 1; n <= 12; n++) {
            RowClasses x = Check.circle(n);
            Check.sentence(promise + "-2 set");
            for (int set : new int[] {-1, 1 << n, (1 << n) + 1, LEAST, LEAST + 1, GREATEST}) {
                Check.due(n + ": (" + set + ", 0, 0)", call.answer(x, set, 0, 0), -2);
            }
            Check.sentence(promise + "-2 rule (0, 1)");
            for (int rule : NO_RULES) {
                Check.due(n + ": (1, " + rule + ", 0)", call.answer(x, 1, rule, 0), -2);
            }
            Check.sentence(promise + "-3 it is empty");
            Check.due(n + ": (0, 0, 0)", call.answer(x, 0, 0, 0), -3);
            Check.due(n + ": (0, 1, 0)", call.answer(x, 0, 1, 0), -3);
        }
    }

    private static void twoRefusals(String promise, Call call) {
        for (int n = 1; n <= 12; n++) {
            RowClasses x = Check.circle(n);
            Check.sentence(promise + "-2 set and rule");
            Check.due(n + ": (-1, 2, 0)", call.answer(x, -1, 2, 0), -2);
            for (int rule : NO_RULES) {
                Check.sentence(promise + "-2 rule before -3 it is empty");
                Check.due(n + ": (0, " + rule + ", 0)", call.answer(x, 0, rule, 0), -2);
                Check.sentence(promise + "-2 rule before -1");
                Check.due(n + ": (1, " + rule + ", -1)", call.answer(x, 1, rule, -1), -2);
                Check.due(n + ": (1, " + rule + ", 1)", call.answer(x, 1, rule, 1), -2);
                Check.sentence(promise + "-2 before -3 before -1");
                Check.due(n + ": (0, " + rule + ", -1)", call.answer(x, 0, rule, -1), -2);
            }
            for (int i : new int[] {-1, 1, n, LEAST, GREATEST}) {
                Check.sentence(promise + "-2 set before -1");
                Check.due(n + ": (2^n, 0, " + i + ")", call.answer(x, 1 << n, 0, i), -2);
                Check.due(n + ": (-1, 1, " + i + ")", call.answer(x, -1, 1, i), -2);
                Check.sentence(promise + "-3 it is empty before -1");
                Check.due(n + ": (0, 0, " + i + ")", call.answer(x, 0, 0, i), -3);
                Check.due(n + ": (0, 1, " + i + ")", call.answer(x, 0, 1, i), -3);
            }
        }
    }

    private static void places(String promise, Call call) {
        for (int n = 1; n <= 12; n++) {
            for (int k = 1; k <= n; k++) {
                RowClasses x = Check.circle(n);
                int set = Check.all(k);
                Check.sentence(promise + "the first place and the last one");
                Check.due(n + ": (" + set + ", 0, 0)", call.answer(x, set, 0, 0), 0);
                Check.due(n + ": (" + set + ", 1, last)", call.answer(x, set, 1, k - 1), k - 1);
                Check.sentence(promise + "-1");
                for (int i : new int[] {-1, k, k + 1, LEAST, GREATEST}) {
                    Check.due(n + ": (" + set + ", 0, " + i + ")", call.answer(x, set, 0, i), -1);
                    Check.due(n + ": (" + set + ", 1, " + i + ")", call.answer(x, set, 1, i), -1);
                }
            }
        }
    }

    private static void differ() {
        Check.sentence("promise 9: For how many CLASSES .. both RULES give unlike PRIME FORMS");
        // The six CLASSES of 12 STEPS in which the rules of the textbooks are known to differ.
        int[] due = {0, 0, 0, 0, 0, 1, 2, 2, 1, 0, 0, 0, 0};
        RowClasses x = new RowClasses();
        for (int k = 0; k <= 12; k++) {
            Check.due("differ(" + k + ")", x.differ(k), due[k]);
        }
        for (int k = 0; k <= 11; k++) {
            Check.due("11: differ(" + k + ")", Check.circle(11).differ(k), k == 6 ? 1 : 0);
        }
        for (int k = 0; k <= 10; k++) {
            Check.due("10: differ(" + k + ")", Check.circle(10).differ(k), k == 5 ? 1 : 0);
        }
    }

    private static void differOfNoneAndAll() {
        Check.sentence("promise 9: k is 0, 1, n - 1 and n");
        for (int n = 1; n <= 12; n++) {
            for (int k : new int[] {0, 1, n - 1, n}) {
                Check.due(n + ": differ(" + k + ")", Check.circle(n).differ(k), 0);
            }
        }
    }

    private static void differBounds() {
        Check.sentence("promise 9: -2 k");
        for (int n = 1; n <= 12; n++) {
            for (int k : new int[] {-1, n + 1, n + 2, LEAST, LEAST + 1, GREATEST}) {
                Check.due(n + ": differ(" + k + ")", Check.circle(n).differ(k), -2);
            }
        }
    }

    private static void refusalsChangeNothing() {
        Check.sentence("promises 7 to 9: a REFUSAL changes nothing");
        for (int n = 1; n <= 12; n++) {
            for (int length : new int[] {0, n - 1, n}) {
                RowClasses x = Check.rising(n, length);
                RowClasses untold = Check.rising(n, length);
                x.normal(-1, 0, 0);
                x.normal(1, 2, 0);
                x.normal(0, 0, 0);
                x.normal(1, 0, 1);
                x.prime(1 << n, 0, 0);
                x.prime(1, -1, 0);
                x.prime(0, 1, 0);
                x.prime(1, 1, -1);
                x.differ(n + 1);
                x.differ(-1);
                Check.due(n + ": differ", x.differ(n / 2), untold.differ(n / 2));
                Check.same(n + ": the state", Check.state(x), Check.state(untold));
            }
        }
    }
}
