import java.math.BigInteger;

/** Edges of "2 A FRAME", steps 6 and 7, of BY LOTS, and of promises 8 and 9, sentence by sentence. */
public final class EdgesStateTest {
    private static final int OUTSIDE = -1000000002, FULL = -1000000004;
    private static final int LOW = Integer.MIN_VALUE, HIGH = Integer.MAX_VALUE;
    /** Six CELLS of 8 by 8 at the bottom, of which no two are NEXT. */
    private static final int[] BOTTOM = {48, 50, 52, 54, 57, 59};

    public static void main(String[] args) {
        everyStateWithEachNumber();
        movedAtTwo();
        movedCountsInStateOneAlone();
        wayAtTwoMoreOrLess();
        wayByRowsAndColumns();
        wayAtWhichItBecameThree();
        missedOnesCount();
        framesOneMore();
        framesOfACall();
        lostInTheFirstAlone();
        framesRefused();
        fullAboveNineThousand();
        driftNumbers();
        driftRefused();
        driftFull();
        lotsByHand();
        lotsOfARowThatIsLost();
        Due.end();
    }

    /** Brings a panel of 8 by 8, where no TRACK moves and none is missed, into a STATE; its fingers are in the first two rows. */
    private static TouchPanel inState(int state) {
        TouchPanel x = Due.panelOf(8, 8);
        x.bound(3, 0);
        if (state >= 1) {
            x.set(0, 0, 50);
            x.frame(1);
        }
        if (state == 2) {
            x.set(0, 0, 0);
            x.set(0, 2, 50);
            x.frame(1);
        }
        if (state == 3 || state == 4) {
            x.set(0, 3, 50);
            x.frame(1);
        }
        if (state == 4) {
            x.set(0, 3, 0);
            x.set(0, 5, 50);
            x.frame(1);
        }
        if (state == 5) {
            x.set(0, 3, 50);
            x.set(0, 6, 50);
            x.frame(1);
        }
        Due.due("the STATE that was wanted", x.told(7), state);
        x.bound(2, 0);
        return x;
    }

    /** All TRACKS end and n others begin, MOVED 0; for two the WAY differs by less than 2, or by 2 or more. */
    private static final int[][] NEXT = {{0, 1, 3, 5, 5, 5, 5}, {0, 1, 3, 5, 5, 5, 5}, {0, 2, 3, 5, 5, 5, 5},
        {0, 1, 3, 5, 5, 5, 5}, {0, 2, 4, 5, 5, 5, 5}, {0, 1, 3, 5, 5, 5, 5}};

    private static void everyStateWithEachNumber() {
        Due.sentence("STATE (0 at first), with n TRACKS then: n is 0: 0; n is 3 or more: 5; else by STATE");
        Due.due("at first", new TouchPanel().told(7), 0);
        for (int state = 0; state <= 5; state++) {
            for (int n = 0; n <= 6; n++) {
                TouchPanel x = inState(state);
                x.wipe();
                for (int i = 0; i < n; i++) {
                    x.set(BOTTOM[i] / 8, BOTTOM[i] % 8, 50);
                }
                Due.due("from " + state + " with " + n, x.frame(1), NEXT[state][n]);
                Due.due("told(7)", x.told(7), NEXT[state][n]);
                Due.due("TRACKS", x.told(10), n);
            }
        }
    }

    private static void movedAtTwo() {
        Due.sentence("1: with 1: 2, if its MOVED is 2 or more, else 1");
        for (int[] steps : new int[][] {{0, 1}, {1, 1}, {2, 2}, {3, 2}}) {
            TouchPanel x = Due.panelOf(2, 8);
            x.set(0, 0, 50);
            Due.due("it begins", x.frame(1), 1);
            x.wipe();
            x.set(0, steps[0], 50);
            Due.due("MOVED " + steps[0] + " at once", x.frame(1), steps[1]);
        }
        TouchPanel x = Due.panelOf(2, 8);
        x.set(0, 0, 50);
        x.frame(1);
        x.wipe();
        x.set(0, 1, 50);
        Due.due("MOVED 1", x.frame(30), 1);
        x.wipe();
        x.set(0, 0, 50);
        Due.due("MOVED 1 and 1, back where it was", x.frame(1), 2);
        Due.due("2: with 1: 2", x.frame(30), 2);
    }

    /** MOVED 3 of the TRACK that is left: from 3 and 5 it is 1 for one FRAME all the same. */
    private static void movedCountsInStateOneAlone() {
        Due.sentence("3: with 1: 1. 5: with 1: 1 (whatever MOVED is)");
        for (int more = 1; more <= 2; more++) {
            TouchPanel x = Due.panelOf(2, 8);
            x.bound(3, 0);
            x.set(0, 0, 50);
            x.frame(1);
            x.wipe();
            x.set(0, 3, 50);
            Due.due("MOVED 3", x.frame(1), 2);
            x.set(0, 7, 40);
            x.set(1, 5, more == 2 ? 40 : 0);
            Due.due("with " + more + " more", x.frame(1), more == 2 ? 5 : 3);
            x.set(0, 7, 0);
            x.set(1, 5, 0);
            Due.due("alone again", x.frame(1), 1);
            Due.due("and then by its MOVED", x.frame(1), 2);
        }
    }

    private static TouchPanel twoAt(int wayAtFirst) {
        TouchPanel x = Due.panelOf(2, 8);
        x.bound(2, 3);
        x.bound(3, 0);
        x.set(0, 0, 51);
        x.set(0, wayAtFirst, 50);
        Due.due("two", x.frame(1), 3);
        return x;
    }

    private static void wayAtTwoMoreOrLess() {
        Due.sentence("3: with 2: 4, if the WAY between both PEAKS differs by 2 or more from that at which STATE became 3, else 3");
        for (int first = 2; first <= 7; first++) {
            for (int differs = -3; differs <= 3; differs++) {
                int way = first + differs;
                if (way >= 2 && way <= 7) {
                    TouchPanel x = twoAt(first);
                    x.wipe();
                    x.set(0, 0, 51);
                    x.set(0, way, 50);
                    Due.due("WAY " + first + ", then " + way, x.frame(1), Math.abs(differs) >= 2 ? 4 : 3);
                    Due.due("it stays", x.frame(2), Math.abs(differs) >= 2 ? 4 : 3);
                }
            }
        }
    }

    private static void wayByRowsAndColumns() {
        Due.sentence("the WAY between both PEAKS (rows and columns, together)");
        int[][] cases = {{2, 2, 3}, {1, 3, 3}, {3, 1, 3}, {3, 2, 3}, {2, 3, 3}, {1, 2, 3}, {3, 3, 4}, {4, 2, 4}, {1, 1, 4}, {2, 0, 4}, {5, 0, 3}};
        for (int[] c : cases) {
            TouchPanel x = Due.panelOf(8, 8);
            x.bound(2, 14);
            x.bound(3, 0);
            x.set(0, 0, 51);
            x.set(2, 2, 50);
            Due.due("WAY 4", x.frame(1), 3);
            x.set(2, 2, 0);
            x.set(c[0], c[1], 50);
            Due.due("at " + c[0] + ", " + c[1], x.frame(1), c[2]);
        }
    }

    /** Two on a row of eight, by their columns. */
    private static int two(TouchPanel x, int a, int b) {
        x.wipe();
        x.set(0, a, 51);
        x.set(0, b, 50);
        return x.frame(1);
    }

    private static int one(TouchPanel x, int a) {
        x.wipe();
        x.set(0, a, 51);
        return x.frame(1);
    }

    private static void wayAtWhichItBecameThree() {
        Due.sentence("that at which STATE became 3 (anew each time that it becomes 3; not while it stays)");
        TouchPanel x = twoAt(3);
        Due.due("WAY 4", two(x, 0, 4), 3);
        Due.due("WAY 4 still", two(x, 0, 4), 3);
        Due.due("WAY 5, 1 more than the FRAME before", two(x, 0, 5), 4);
        Due.due("from 4 no way back: WAY 3", two(x, 0, 3), 4);
        Due.due("one of them, from 4", one(x, 0), 2);
        Due.due("from 2 to 3 at WAY 6", two(x, 0, 6), 3);
        Due.due("WAY 5", two(x, 0, 5), 3);
        Due.due("one of them, from 3", one(x, 0), 1);
        Due.due("from 1 to 3 at WAY 4", two(x, 0, 4), 3);
        Due.due("WAY 5, 1 more", two(x, 0, 5), 3);
        Due.due("WAY 6, 2 more", two(x, 0, 6), 4);
        x.wipe();
        Due.due("none", x.frame(1), 0);
        Due.due("from 0 to 3 at WAY 7", two(x, 0, 7), 3);
        x.set(0, 4, 49);
        Due.due("three", x.frame(1), 5);
        Due.due("from 5 to 3 at WAY 4", two(x, 0, 4), 3);
        Due.due("WAY 3", two(x, 0, 3), 3);
        Due.due("WAY 2", two(x, 0, 2), 4);
    }

    private static void missedOnesCount() {
        Due.sentence("with n TRACKS then (those that are missed too)");
        TouchPanel x = twoAt(5);
        x.bound(3, 2);
        Due.due("one is missed once", one(x, 0), 3);
        Due.due("twice", one(x, 0), 3);
        Due.due("it ends", one(x, 0), 1);
        x.wipe();
        Due.due("the last is missed", x.frame(2), 1);
        Due.due("none", x.frame(1), 0);
    }

    private static void framesOneMore() {
        Due.sentence("FRAMES (0 at first) are one more; no row is LOST");
        TouchPanel x = new TouchPanel();
        Due.due("at first", x.told(6), 0);
        for (int i = 1; i <= 40; i++) {
            x.lose(i % 4);
            x.frame(1);
            Due.due("FRAMES", x.told(6), i);
            Due.due("LOST", x.told(14), 0);
        }
    }

    private static void framesOfACall() {
        Due.sentence("frame: n FRAMES (1 .. 30): STATE then");
        for (int n = 1; n <= 30; n++) {
            TouchPanel x = new TouchPanel();
            TouchPanel y = new TouchPanel();
            x.press(1, 1, 50);
            y.press(1, 1, 50);
            x.set(3, 3, 9);
            y.set(3, 3, 9);
            Due.due("frame(" + n + ")", x.frame(n), 1);
            for (int i = 0; i < n; i++) {
                y.frame(1);
            }
            Due.due("FRAMES", x.told(6), n);
            Due.due("AGE", x.track(0, 2), n);
            Due.due("as one by one", x.digest(), y.digest());
        }
    }

    private static void lostInTheFirstAlone() {
        Due.sentence("rows are LOST in the first one alone");
        TouchPanel x = Due.panelOf(2, 2);
        x.set(0, 0, 50);
        x.lose(0);
        Due.due("frame(1): MISSING", x.frame(1), 0);
        x.lose(0);
        Due.due("frame(2): the second sees it", x.frame(2), 1);
        Due.trackIs(x, 0, 0, 0, 1, 0, 0);
        Due.due("MISSING in the latest FRAME", x.told(16), 0);
        TouchPanel y = Due.panelOf(2, 2);
        y.set(0, 0, 50);
        y.lose(0);
        y.frame(30);
        Due.due("AGE after 30", y.track(0, 2), 29);
    }

    private static void framesRefused() {
        Due.sentence("frame: OUTSIDE");
        for (int n : new int[] {0, 31, -1, -30, 32, 256 + 1, LOW, HIGH, LOW + 1}) {
            TouchPanel x = new TouchPanel();
            x.lose(2);
            Due.due("frame(" + n + ")", x.frame(n), OUTSIDE);
            Due.due("FRAMES", x.told(6), 0);
            Due.due("the row is LOST still", x.told(14), 4);
        }
    }

    private static TouchPanel withFrames(int frames) {
        TouchPanel x = Due.panelOf(2, 2);
        x.set(1, 1, 50);
        for (int i = 0; i < frames / 30; i++) {
            x.frame(30);
        }
        if (frames % 30 > 0) {
            x.frame(frames % 30);
        }
        Due.due("FRAMES", x.told(6), frames);
        return x;
    }

    private static void fullAboveNineThousand() {
        Due.sentence("FULL: FRAMES are above 9000");
        for (int frames : new int[] {8971, 8999, 9000}) {
            for (int n : new int[] {1, 30}) {
                TouchPanel x = withFrames(frames);
                Due.due("frame(" + n + ") at " + frames, x.frame(n), 1);
                Due.due("FRAMES then", x.told(6), frames + n);
                boolean full = frames + n > 9000;
                x.lose(0);
                Due.due("frame(1) at " + (frames + n), x.frame(1), full ? FULL : 1);
                Due.due("FRAMES then", x.told(6), full ? frames + n : frames + n + 1);
                Due.due("LOST then", x.told(14), full ? 1 : 0);
                Due.due("AGE then", x.track(0, 2), full ? frames + n : frames + n + 1);
            }
        }
        TouchPanel x = withFrames(9001);
        Due.due("frame(30)", x.frame(30), FULL);
        Due.due("frame(0): OUTSIDE comes first", x.frame(0), OUTSIDE);
        Due.due("frame(31): OUTSIDE comes first", x.frame(31), OUTSIDE);
        Due.due("FRAMES still", x.told(6), 9001);
    }

    private static void driftNumbers() {
        Due.sentence("drift: n FRAMES (1 .. 30) BY LOTS of a SEED (1 .. 999999): STATE then");
        for (int seed : new int[] {1, 2, 999998, 999999}) {
            for (int n = 1; n <= 30; n++) {
                TouchPanel x = new TouchPanel();
                int state = x.drift(n, seed);
                Due.due("STATE told", x.told(7), state);
                Due.due("FRAMES of drift(" + n + ", " + seed + ")", x.told(6), n);
                Due.due("no row is LOST", x.told(14), 0);
            }
        }
    }

    private static void driftRefused() {
        Due.sentence("drift: OUTSIDE");
        int[] counts = {0, 31, -1, LOW, HIGH, 256 + 1};
        int[] seeds = {0, 1000000, -1, LOW, HIGH, 2147483646};
        for (int n : counts) {
            for (int seed : seeds) {
                outsideDrift(n, 1);
                outsideDrift(n, 999999);
                outsideDrift(1, seed);
                outsideDrift(30, seed);
                outsideDrift(n, seed);
            }
        }
    }

    private static void outsideDrift(int n, int seed) {
        TouchPanel x = new TouchPanel();
        x.set(0, 0, 5);
        x.lose(1);
        Due.due("drift(" + n + ", " + seed + ")", x.drift(n, seed), OUTSIDE);
        Due.due("FRAMES", x.told(6), 0);
        Due.due("LOST", x.told(14), 2);
        Due.due("RAW", x.cell(0, 0, 0), 5);
    }

    private static void driftFull() {
        Due.sentence("drift: FULL: FRAMES are above 9000");
        TouchPanel just = withFrames(9000);
        just.drift(30, 1);
        Due.due("FRAMES", just.told(6), 9030);
        Due.due("drift(1, 1)", just.drift(1, 1), FULL);
        TouchPanel x = withFrames(9001);
        long digest = x.digest();
        Due.due("drift(1, 1)", x.drift(1, 1), FULL);
        Due.due("drift(30, 999999)", x.drift(30, 999999), FULL);
        Due.due("drift(0, 1): OUTSIDE comes first", x.drift(0, 1), OUTSIDE);
        Due.due("drift(1, 0): OUTSIDE comes first", x.drift(1, 0), OUTSIDE);
        Due.due("drift(31, 1000000): OUTSIDE comes first", x.drift(31, 1000000), OUTSIDE);
        Due.due("nothing changed", x.digest(), digest);
    }

    private static BigInteger lot;

    private static int next(int values) {
        lot = lot.multiply(BigInteger.valueOf(16807)).mod(BigInteger.valueOf(2147483647));
        return lot.mod(BigInteger.valueOf(values)).intValue();
    }

    /** Numbers without a limit tell what is left over, so nothing can go round unseen. */
    private static void lotsByHand() {
        Due.sentence("ahead of each X (the SEED at first) becomes what is left of (X times 16807) by 2147483647 for each number wanted");
        int[] kinds = new int[4];
        for (int[] size : new int[][] {{4, 4}, {2, 2}, {8, 8}, {2, 8}, {8, 2}, {3, 7}}) {
            for (int seed : new int[] {1, 2, 3, 4, 127773, 131071, 500000, 999998, 999999}) {
                TouchPanel x = Due.panelOf(size[0], size[1]);
                TouchPanel y = Due.panelOf(size[0], size[1]);
                lot = BigInteger.valueOf(seed);
                int state = 0;
                for (int i = 0; i < 7; i++) {
                    int kind = next(4);
                    kinds[kind]++;
                    castByHand(y, kind, size[0], size[1]);
                    state = y.frame(1);
                }
                Due.due("drift(7, " + seed + ") on " + size[0] + " by " + size[1], x.drift(7, seed), state);
                Due.due("all of it", x.digest(), y.digest());
                Due.due("MISSING", x.told(16), y.told(16));
            }
        }
        for (int kind = 0; kind < 4; kind++) {
            Due.holds("lots of kind " + kind + " were drawn", kinds[kind] > 10);
        }
    }

    private static void castByHand(TouchPanel y, int kind, int rows, int columns) {
        if (kind == 0) {
            y.wipe();
        } else if (kind == 1) {
            int at = next(rows * columns);
            y.set(at / columns, at % columns, next(1000));
        } else if (kind == 2) {
            y.lose(next(rows));
        } else {
            for (int at = 0; at < rows * columns; at++) {
                y.set(at / columns, at % columns, next(30));
            }
        }
    }

    /** Seed 2 draws 2 by 4 at first: a row is LOST. */
    private static void lotsOfARowThatIsLost() {
        Due.sentence("2: the row X left over by R is LOST (one that is already stays so)");
        for (int rows = 2; rows <= 8; rows++) {
            for (int already = 0; already < rows; already++) {
                TouchPanel x = Due.panelOf(rows, 2);
                x.lose(already);
                x.drift(1, 2);
                int row = (int) (33614L * 16807 % 2147483647 % rows);
                int missing = 0;
                for (int r = 0; r < rows; r++) {
                    boolean lost = r == row || r == already;
                    boolean bridged = r > 0 && r < rows - 1 && Math.abs(row - already) != 1;
                    missing += lost && !bridged ? 2 : 0;
                }
                Due.due("MISSING, " + already + " LOST ahead of " + row + " of " + rows, x.told(16), missing);
                Due.due("LOST then", x.told(14), 0);
            }
        }
    }
}
