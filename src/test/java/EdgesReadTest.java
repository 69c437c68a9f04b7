/** Edges of "2 A FRAME", steps 1 to 3, sentence by sentence: READ, SIGNAL, GROUND. */
public final class EdgesReadTest {
    private static final int NO_SIGNAL = -99999;
    private static final int[] WEAK = {1, 4, 2, 7, 3, 9, 5, 8}, STRONG = {20, 33, 27, 50, 11, 40, 25, 60};

    public static void main(String[] args) {
        readOfLeastAndMost();
        everySetOfLostRows();
        bridgedAgainstItsOwnGround();
        bridgedAtTheEdgeOfTouch();
        missingWasTouchedBefore();
        touchedAtTheBound();
        touchedASixteenthBelow();
        groundIsCut();
        groundOfTouchedAndOthers();
        groundComesNear();
        groundAtItsMost();
        signalStays();
        Due.end();
    }

    private static void readOfLeastAndMost() {
        Due.sentence("READ of a CELL in sixteenths: 16 times RAW");
        TouchPanel x = new TouchPanel();
        x.set(0, 0, 999);
        x.set(3, 3, 1);
        x.frame(1);
        Due.cellIs(x, 0, 0, 999, 0, 15984, 1, 0);
        Due.cellIs(x, 3, 3, 1, 1, 16, 0, -1);
        Due.cellIs(x, 1, 1, 0, 0, 0, 0, -1);
    }

    /** Each number of rows, each SET of them LOST: none, one at the edge, side by side, every other, all. */
    private static void everySetOfLostRows() {
        Due.sentence("of a LOST row: half of the sum of READ above and below it, if both rows are there and not LOST; else it is MISSING");
        for (int rows = 2; rows <= 8; rows++) {
            for (int lost = 0; lost < 1 << rows; lost++) {
                TouchPanel x = Due.panelOf(rows, 2);
                for (int row = 0; row < rows; row++) {
                    Due.put(x, row, WEAK[row], STRONG[row]);
                    if (isIn(lost, row)) {
                        x.lose(row);
                    }
                }
                x.frame(1);
                readAsDue(x, rows, lost);
            }
        }
    }

    private static boolean isIn(int set, int row) {
        return (set >> row & 1) == 1;
    }

    private static void readAsDue(TouchPanel x, int rows, int lost) {
        int missing = 0;
        for (int row = 0; row < rows; row++) {
            int[] signal = {16 * WEAK[row], 16 * STRONG[row]};
            boolean bridged = row > 0 && row < rows - 1 && !isIn(lost, row - 1) && !isIn(lost, row + 1);
            if (isIn(lost, row) && bridged) {
                signal[0] = 8 * WEAK[row - 1] + 8 * WEAK[row + 1];
                signal[1] = 8 * STRONG[row - 1] + 8 * STRONG[row + 1];
            } else if (isIn(lost, row)) {
                signal[0] = NO_SIGNAL;
                signal[1] = NO_SIGNAL;
                missing += 2;
            }
            String where = "row " + row + " of " + rows + ", LOST " + lost;
            Due.due("SIGNAL, " + where, x.cell(row, 0, 2), signal[0]);
            Due.due("SIGNAL, " + where, x.cell(row, 1, 2), signal[1]);
            Due.due("TOUCHED, " + where, x.cell(row, 0, 3), 0);
            Due.due("TOUCHED, " + where, x.cell(row, 1, 3), signal[1] == NO_SIGNAL ? 0 : 1);
            Due.due("GROUND, " + where, x.cell(row, 0, 1), isIn(lost, row) ? 0 : WEAK[row]);
            Due.due("GROUND, " + where, x.cell(row, 1, 1), 0);
            Due.due("RAW, " + where, x.cell(row, 0, 0), WEAK[row]);
        }
        Due.due("MISSING, LOST " + lost + " of " + rows, x.told(16), missing);
        Due.due("TOUCHED, LOST " + lost + " of " + rows, x.told(15), rows - missing / 2);
        Due.due("no row is LOST", x.told(14), 0);
    }

    private static void bridgedAgainstItsOwnGround() {
        Due.sentence("SIGNAL: READ less GROUND (of a row that is bridged too)");
        TouchPanel x = Due.panelOf(3, 2);
        Due.put(x, 1, 9, 1);
        x.frame(1);
        Due.put(x, 0, 0, 30);
        Due.put(x, 2, 0, 1);
        x.lose(1);
        x.frame(1);
        Due.cellIs(x, 1, 0, 9, 9, -9, 0, -1);
        Due.cellIs(x, 1, 1, 1, 1, 16 * 31 / 2 - 1, 1, 1);
    }

    private static void bridgedAtTheEdgeOfTouch() {
        Due.sentence("It is TOUCHED, if SIGNAL is 16 T or more (of a row that is bridged too)");
        int[][] cases = {{10, 10, 160, 1}, {9, 10, 152, 0}, {9, 11, 160, 1}, {0, 20, 160, 1}, {0, 19, 152, 0}, {19, 0, 152, 0}};
        for (int[] c : cases) {
            TouchPanel x = Due.panelOf(3, 2);
            x.set(0, 0, c[0]);
            x.set(2, 0, c[1]);
            x.lose(1);
            x.frame(1);
            Due.cellIs(x, 1, 0, 0, 0, c[2], c[3]);
        }
        TouchPanel most = Due.panelOf(3, 2);
        most.set(0, 0, 999);
        most.set(2, 0, 999);
        most.lose(1);
        most.frame(1);
        Due.due("the most that can be bridged", most.cell(1, 0, 2), 15984);
    }

    private static void missingWasTouchedBefore() {
        Due.sentence("SIGNAL: of a MISSING one none");
        TouchPanel x = Due.panelOf(2, 2);
        x.set(0, 0, 999);
        x.set(1, 1, 5);
        x.frame(1);
        x.lose(0);
        x.lose(1);
        x.frame(1);
        Due.cellIs(x, 0, 0, 999, 0, NO_SIGNAL, 0, -1);
        Due.cellIs(x, 1, 1, 5, 5, NO_SIGNAL, 0, -1);
        Due.due("MISSING", x.told(16), 4);
        Due.due("TOUCHED", x.told(15), 0);
        Due.due("CONTACTS", x.told(8), 0);
        x.frame(1);
        Due.cellIs(x, 0, 0, 999, 0, 15984, 1, 0);
        Due.due("MISSING no more", x.told(16), 0);
    }

    private static void touchedAtTheBound() {
        Due.sentence("It is TOUCHED, if SIGNAL is 16 T or more");
        for (int bound = 1; bound <= 200; bound++) {
            TouchPanel x = Due.panelOf(2, 3);
            x.bound(0, bound);
            Due.put(x, 0, bound, 0, bound - 1);
            x.frame(1);
            Due.cellIs(x, 0, 0, bound, 0, 16 * bound, 1, 0);
            Due.cellIs(x, 0, 2, bound - 1, bound - 1, 16 * bound - 16, 0, -1);
            Due.due("TOUCHED", x.told(15), 1);
        }
    }

    /** Two by two, of which the first CELL has this GROUND (up to 33) and is not TOUCHED. */
    private static TouchPanel withGround(int ground) {
        TouchPanel x = Due.panelOf(2, 2);
        x.set(0, 0, ground <= 1 ? ground : ground <= 17 ? 2 : 3);
        for (int i = 0; i < 60 && x.cell(0, 0, 1) < ground; i++) {
            x.frame(1);
        }
        Due.due("the GROUND that was wanted", x.cell(0, 0, 1), ground);
        return x;
    }

    private static void touchedASixteenthBelow() {
        Due.sentence("It is TOUCHED, if SIGNAL is 16 T or more (in sixteenths)");
        for (int bound : new int[] {1, 2, 10, 199, 200}) {
            TouchPanel less = withGround(1);
            less.bound(0, bound);
            less.set(0, 0, bound);
            less.frame(1);
            Due.cellIs(less, 0, 0, bound, 1 + (16 * bound - 1) / 16, 16 * bound - 1, 0, -1);
            TouchPanel just = withGround(16);
            just.bound(0, bound);
            just.set(0, 0, bound + 1);
            just.frame(1);
            Due.cellIs(just, 0, 0, bound + 1, 16, 16 * bound, 1, 0);
            TouchPanel more = withGround(15);
            more.bound(0, bound);
            more.set(0, 0, bound + 1);
            more.frame(1);
            Due.cellIs(more, 0, 0, bound + 1, 15, 16 * bound + 1, 1, 0);
        }
    }

    /** GROUND, RAW, SIGNAL, GROUND then: upwards and downwards the cut is towards 0. */
    private static void groundIsCut() {
        Due.sentence("is more by (READ less GROUND) / 16 (cut); / cuts towards 0");
        int[][] cases = {{0, 0, 0, 0}, {1, 1, 15, 1}, {0, 1, 16, 1}, {15, 2, 17, 16}, {17, 3, 31, 18}, {16, 3, 32, 18}, {15, 3, 33, 17},
            {1, 0, -1, 1}, {15, 0, -15, 15}, {16, 0, -16, 15}, {17, 0, -17, 16}, {31, 0, -31, 30}, {32, 0, -32, 30}, {33, 0, -33, 31},
            {1, 10, 159, 10}, {0, 9, 144, 9}};
        for (int[] c : cases) {
            TouchPanel x = withGround(c[0]);
            x.set(0, 0, c[1]);
            x.frame(1);
            Due.cellIs(x, 0, 0, c[1], c[3], c[2], 0, -1);
        }
    }

    private static void groundOfTouchedAndOthers() {
        Due.sentence("GROUND of a CELL that is neither TOUCHED nor of a LOST row");
        TouchPanel x = Due.panelOf(4, 2);
        Due.put(x, 0, 9, 10);
        Due.put(x, 1, 9, 10);
        Due.put(x, 3, 9, 10);
        x.lose(1);
        x.lose(3);
        x.frame(1);
        Due.due("a row that is there, not TOUCHED", x.cell(0, 0, 1), 9);
        Due.due("a row that is there, TOUCHED", x.cell(0, 1, 1), 0);
        Due.due("a bridged row, not TOUCHED", x.cell(1, 0, 1), 0);
        Due.due("its SIGNAL", x.cell(1, 0, 2), 72);
        Due.due("a MISSING row", x.cell(3, 0, 1), 0);
        Due.due("a MISSING row", x.cell(3, 1, 1), 0);
    }

    /** From below it stops 15 sixteenths short, from above 15 over. */
    private static void groundComesNear() {
        Due.sentence("GROUND is more by (READ less GROUND) / 16 (cut), FRAME by FRAME");
        TouchPanel x = Due.panelOf(2, 2);
        x.set(0, 0, 9);
        x.set(1, 1, 1);
        for (int i = 0; i < 5; i++) {
            x.frame(30);
        }
        Due.cellIs(x, 0, 0, 9, 129, 15, 0, -1);
        Due.cellIs(x, 1, 1, 1, 1, 15, 0, -1);
        x.wipe();
        for (int i = 0; i < 5; i++) {
            x.frame(30);
        }
        Due.cellIs(x, 0, 0, 0, 15, -15, 0, -1);
        Due.cellIs(x, 1, 1, 0, 1, -1, 0, -1);
    }

    /** RAW rises so slowly that it never TOUCHES, to 999; then all is gone at once. */
    private static void groundAtItsMost() {
        Due.sentence("SIGNAL: READ less GROUND (the least and the most)");
        TouchPanel x = Due.panelOf(2, 2);
        x.bound(0, 200);
        for (int raw = 99; raw <= 999; raw += 100) {
            x.set(0, 0, raw);
            for (int i = 0; i < 5; i++) {
                x.frame(30);
            }
        }
        Due.cellIs(x, 0, 0, 999, 15969, 15, 0, -1);
        Due.due("it was never TOUCHED", x.told(13), 0);
        x.wipe();
        x.frame(1);
        Due.cellIs(x, 0, 0, 0, 15969 - 15969 / 16, -15969, 0, -1);
        x.lose(0);
        x.frame(1);
        Due.due("none is less than all", x.cell(0, 0, 2), NO_SIGNAL);
    }

    private static void signalStays() {
        Due.sentence("SIGNAL stays as it was ahead of that");
        TouchPanel x = Due.panelOf(2, 2);
        x.set(0, 0, 9);
        x.frame(1);
        Due.cellIs(x, 0, 0, 9, 9, 144);
        x.frame(1);
        Due.cellIs(x, 0, 0, 9, 17, 135);
    }
}
