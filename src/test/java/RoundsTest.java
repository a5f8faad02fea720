/** Promise 31: rounds. */
public final class RoundsTest {
    public static void main(String[] args) {
        knownNumbers();
        edges();
        stateDoesNotMatter();
        refused();
        Check.end("RoundsTest");
    }

    private static void knownNumbers() {
        RowClasses x = new RowClasses();
        long[] turned = {2, 3, 4, 6, 8, 14, 20, 36, 60, 108, 188, 352};
        long[] turnedOver = {2, 3, 4, 6, 8, 13, 18, 30, 46, 78, 126, 224};
        for (int beads = 1; beads <= 12; beads++) {
            Check.due("rounds(" + beads + ", 2, false)",
                    x.rounds(beads, 2, false), turned[beads - 1]);
            Check.due("rounds(" + beads + ", 2, true)",
                    x.rounds(beads, 2, true), turnedOver[beads - 1]);
        }
        Check.due("rounds(3, 3, false)", x.rounds(3, 3, false), 11);
        Check.due("rounds(3, 3, true)", x.rounds(3, 3, true), 10);
        Check.due("rounds(4, 6, true)", x.rounds(4, 6, true), 231);
    }

    private static void edges() {
        RowClasses x = new RowClasses();
        for (int colours = 1; colours <= 6; colours++) {
            Check.due("rounds(1, " + colours + ", false)", x.rounds(1, colours, false), colours);
            Check.due("rounds(1, " + colours + ", true)", x.rounds(1, colours, true), colours);
        }
        for (int beads = 1; beads <= 24; beads++) {
            Check.due("rounds(" + beads + ", 1, false)", x.rounds(beads, 1, false), 1);
            Check.due("rounds(" + beads + ", 1, true)", x.rounds(beads, 1, true), 1);
        }
        Check.due("rounds(24, 6, false)", x.rounds(24, 6, false), 197432555854243976L);
        Check.due("rounds(24, 6, true)", x.rounds(24, 6, true), 98716281736491076L);
        Check.due("rounds(24, 2, false)", x.rounds(24, 2, false), 699252);
        Check.due("rounds(24, 2, true)", x.rounds(24, 2, true), 352698);
    }

    private static void stateDoesNotMatter() {
        Check.due("1: rounds(4, 2, false)", Check.circle(1).rounds(4, 2, false), 6);
        Check.due("with a row: rounds(4, 2, true)", Check.row(3, 0, 1, 2).rounds(4, 2, true), 6);
    }

    private static void refused() {
        RowClasses x = new RowClasses();
        for (int beads : new int[] {0, -1, 25, Integer.MIN_VALUE, Integer.MAX_VALUE}) {
            Check.due("rounds(" + beads + ", 2, false)", x.rounds(beads, 2, false), -2);
            Check.due("rounds(" + beads + ", 2, true)", x.rounds(beads, 2, true), -2);
        }
        for (int colours : new int[] {0, -1, 7, Integer.MIN_VALUE, Integer.MAX_VALUE}) {
            Check.due("rounds(4, " + colours + ", false)", x.rounds(4, colours, false), -2);
            Check.due("rounds(4, " + colours + ", true)", x.rounds(4, colours, true), -2);
        }
    }
}
