/** Promise 31: rounds. */
public final class RoundsTest {
    private static final int LEAST = Integer.MIN_VALUE;
    private static final int GREATEST = Integer.MAX_VALUE;

    public static void main(String[] args) {
        knownNumbers();
        mirroredOrNot();
        leastAndMostBeads();
        leastAndMostColours();
        theMostOfBoth();
        beadsRefused();
        coloursRefused();
        bothRefused();
        stateDoesNotMatter();
        Check.end("RoundsTest");
    }

    private static void knownNumbers() {
        Check.sentence("promise 31: How many rounds of so many beads there are");
        RowClasses x = new RowClasses();
        long[] turned = {2, 3, 4, 6, 8, 14, 20, 36, 60, 108, 188, 352};
        long[] turnedOver = {2, 3, 4, 6, 8, 13, 18, 30, 46, 78, 126, 224};
        for (int beads = 1; beads <= 12; beads++) {
            Check.due("rounds(" + beads + ", 2, false)",
                    x.rounds(beads, 2, false), turned[beads - 1]);
            Check.due("rounds(" + beads + ", 2, true)",
                    x.rounds(beads, 2, true), turnedOver[beads - 1]);
        }
    }

    private static void mirroredOrNot() {
        Check.sentence("promise 31: those that turning (and, mirrored, turning over) makes ..");
        RowClasses x = new RowClasses();
        // An odd and an even number: of three beads of three colours two are one turned over.
        Check.due("rounds(3, 3, false)", x.rounds(3, 3, false), 11);
        Check.due("rounds(3, 3, true)", x.rounds(3, 3, true), 10);
        Check.due("rounds(2, 6, false)", x.rounds(2, 6, false), 21);
        Check.due("rounds(2, 6, true)", x.rounds(2, 6, true), 21);
        Check.due("rounds(4, 6, false)", x.rounds(4, 6, false), 336);
        Check.due("rounds(4, 6, true)", x.rounds(4, 6, true), 231);
    }

    private static void leastAndMostBeads() {
        Check.sentence("promise 31: 1 bead, 24 beads");
        RowClasses x = new RowClasses();
        for (int colours = 1; colours <= 6; colours++) {
            Check.due("rounds(1, " + colours + ", false)", x.rounds(1, colours, false), colours);
            Check.due("rounds(1, " + colours + ", true)", x.rounds(1, colours, true), colours);
        }
        Check.due("rounds(24, 2, false)", x.rounds(24, 2, false), 699252);
        Check.due("rounds(24, 2, true)", x.rounds(24, 2, true), 352698);
        Check.due("rounds(23, 2, false)", x.rounds(23, 2, false), 364724);
        Check.due("rounds(23, 2, true)", x.rounds(23, 2, true), 184410);
    }

    private static void leastAndMostColours() {
        Check.sentence("promise 31: 1 colour, 6 colours");
        RowClasses x = new RowClasses();
        for (int beads = 1; beads <= 24; beads++) {
            Check.due("rounds(" + beads + ", 1, false)", x.rounds(beads, 1, false), 1);
            Check.due("rounds(" + beads + ", 1, true)", x.rounds(beads, 1, true), 1);
        }
        // Of a prime number of beads: (6^5 - 6) / 5 + 6.
        Check.due("rounds(5, 6, false)", x.rounds(5, 6, false), 1560);
        Check.due("rounds(5, 6, true)", x.rounds(5, 6, true), 888);
        Check.due("rounds(5, 5, false)", x.rounds(5, 5, false), 629);
    }

    private static void theMostOfBoth() {
        Check.sentence("promise 31: 24 beads of 6 colours, counted exactly");
        RowClasses x = new RowClasses();
        Check.due("rounds(24, 6, false)", x.rounds(24, 6, false), 197432555854243976L);
        Check.due("rounds(24, 6, true)", x.rounds(24, 6, true), 98716281736491076L);
        // Of a prime number of beads: (6^23 - 6) / 23 + 6.
        Check.due("rounds(23, 6, false)", x.rounds(23, 6, false), 34336096654504476L);
        Check.due("rounds(1, 1, true)", x.rounds(1, 1, true), 1);
    }

    private static void beadsRefused() {
        Check.sentence("promise 31: -2 beads are not 1 .. 24");
        RowClasses x = new RowClasses();
        for (int beads : new int[] {0, -1, -24, 25, 26, LEAST, LEAST + 1, GREATEST}) {
            for (int colours : new int[] {1, 6}) {
                Check.due("rounds(" + beads + ", " + colours + ", false)",
                        x.rounds(beads, colours, false), -2);
                Check.due("rounds(" + beads + ", " + colours + ", true)",
                        x.rounds(beads, colours, true), -2);
            }
        }
    }

    private static void coloursRefused() {
        Check.sentence("promise 31: -2 colours not 1 .. 6");
        RowClasses x = new RowClasses();
        for (int colours : new int[] {0, -1, -6, 7, 8, LEAST, LEAST + 1, GREATEST}) {
            for (int beads : new int[] {1, 24}) {
                Check.due("rounds(" + beads + ", " + colours + ", false)",
                        x.rounds(beads, colours, false), -2);
                Check.due("rounds(" + beads + ", " + colours + ", true)",
                        x.rounds(beads, colours, true), -2);
            }
        }
    }

    private static void bothRefused() {
        Check.sentence("promise 31: -2 (both)");
        RowClasses x = new RowClasses();
        Check.due("rounds(0, 0, false)", x.rounds(0, 0, false), -2);
        Check.due("rounds(25, 7, true)", x.rounds(25, 7, true), -2);
        Check.due("rounds(least, greatest, true)", x.rounds(LEAST, GREATEST, true), -2);
    }

    private static void stateDoesNotMatter() {
        Check.sentence("promise 31: however many STEPS there are; and nothing changes");
        for (int n = 1; n <= 12; n++) {
            for (int length : new int[] {0, n - 1, n}) {
                RowClasses x = Check.rising(n, length);
                RowClasses untold = Check.rising(n, length);
                Check.due(n + ": rounds(24, 2, false)", x.rounds(24, 2, false), 699252);
                Check.due(n + ": rounds(0, 2, false)", x.rounds(0, 2, false), -2);
                Check.due(n + ": rounds(1, 7, true)", x.rounds(1, 7, true), -2);
                Check.same(n + ": the state", Check.state(x), Check.state(untold));
            }
        }
    }
}
