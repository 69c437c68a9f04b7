/** Promise 9: drift does by lots what the other calls do one by one. */
public final class DriftTest {
    private static final int OUTSIDE = -1000000002;

    private static long x;

    public static void main(String[] args) {
        firstLots();
        sameAsByHand();
        lostAheadOfDrift();
        refusals();
        Due.end();
    }

    private static int next(int values) {
        x = x * 16807 % 2147483647;
        return (int) (x % values);
    }

    private static void lotByHand(TouchPanel p) {
        int rows = p.told(0);
        int columns = p.told(1);
        int kind = next(4);
        if (kind == 0) {
            p.wipe();
        } else if (kind == 1) {
            int at = next(rows * columns);
            p.set(at / columns, at % columns, next(1000));
        } else if (kind == 2) {
            p.lose(next(rows));
        } else {
            for (int at = 0; at < rows * columns; at++) {
                p.set(at / columns, at % columns, next(30));
            }
        }
    }

    /** Seed 1: 16807 is 3 by 4, so each cell gets a number; the first is 282475249, 19 by 30. */
    private static void firstLots() {
        TouchPanel p = new TouchPanel();
        p.drift(1, 1);
        Due.due("told(6)", p.told(6), 1);
        Due.due("RAW of the first cell", p.cell(0, 0, 0), 282475249 % 30);
        Due.due("RAW of the second cell", p.cell(0, 1, 0), 1622650073 % 30);
        // seed 3: 50421 is 1 by 4; then 847425747 picks the cell, 394466545 the charge
        TouchPanel q = new TouchPanel();
        q.drift(1, 3);
        int at = 847425747 % 16;
        long charge = 847425747L * 16807 % 2147483647 % 1000;
        Due.due("RAW of the one cell", q.cell(at / 4, at % 4, 0), charge);
        Due.due("the others have none", q.wipe(), charge == 0 ? 0 : 1);
        // seed 2: 33614 is 2 by 4: a row is lost, and is not when the frame has gone
        TouchPanel r = new TouchPanel();
        int row = (int) (33614L * 16807 % 2147483647 % 4);
        r.drift(1, 2);
        Due.due("MISSING by lots", r.told(16), row == 0 || row == 3 ? 4 : 0);
        Due.due("no row is LOST then", r.told(14), 0);
        // seed 4: 67228 is 0 by 4: all RAW are 0
        TouchPanel s = new TouchPanel();
        s.press(1, 1, 90);
        s.drift(1, 4);
        Due.due("nothing left to wipe", s.wipe(), 0);
    }

    private static void sameAsByHand() {
        int[][] sizes = {{4, 4}, {2, 2}, {8, 8}, {3, 7}, {8, 2}, {2, 8}};
        int[] seeds = {1, 2, 3, 7, 99, 12345, 500000, 999999};
        for (int[] size : sizes) {
            // by hand a lot takes as many calls as there are CELLS, and a FRAME one more: 400 calls at most
            int most = Math.min(30, 400 / (size[0] * size[1] + 1));
            for (int seed : seeds) {
                TouchPanel p = Due.panelOf(size[0], size[1]);
                TouchPanel q = Due.panelOf(size[0], size[1]);
                int n = most - seed % 3;
                int state = 0;
                x = seed;
                for (int i = 0; i < n; i++) {
                    lotByHand(q);
                    state = q.frame(1);
                }
                String call = "drift(" + n + ", " + seed + ") on " + size[0] + " by " + size[1];
                Due.due(call, p.drift(n, seed), state);
                Due.holds("all is as by hand after " + call, Due.shown(p).equals(Due.shown(q)));
            }
        }
    }

    private static void lostAheadOfDrift() {
        TouchPanel p = new TouchPanel();
        p.lose(0);
        p.drift(1, 1);
        Due.due("MISSING, LOST ahead of drift", p.told(16), 4);
        TouchPanel q = new TouchPanel();
        for (int row = 0; row < 4; row++) {
            q.lose(row);
        }
        Due.due("a row that is LOST may come by lots", q.drift(1, 2), 0);
        Due.due("MISSING", q.told(16), 16);
    }

    private static void refusals() {
        for (int n : new int[] {0, -1, 31, Integer.MIN_VALUE, Integer.MAX_VALUE}) {
            Due.unchanged(Due::used, "drift(" + n + ", 1)", p -> p.drift(n, 1), OUTSIDE);
        }
        for (int seed : new int[] {0, -1, 1000000, Integer.MIN_VALUE, Integer.MAX_VALUE}) {
            Due.unchanged(Due::used, "drift(1, " + seed + ")", p -> p.drift(1, seed), OUTSIDE);
        }
        full();
    }

    private static TouchPanel justFull() {
        TouchPanel p = new TouchPanel();
        for (int i = 0; i < 300; i++) {
            p.drift(30, 1 + i);
        }
        Due.due("FRAMES", p.told(6), 9000);
        p.drift(1, 5);
        Due.due("one more at 9000", p.told(6), 9001);
        return p;
    }

    private static void full() {
        Due.unchanged(DriftTest::justFull, "drift(1, 1) when FULL", p -> p.drift(1, 1), -1000000004);
        Due.unchanged(DriftTest::justFull, "drift(1, 0) when FULL", p -> p.drift(1, 0), OUTSIDE);
        Due.unchanged(DriftTest::justFull, "frame(1) when FULL", p -> p.frame(1), -1000000004);
    }
}
