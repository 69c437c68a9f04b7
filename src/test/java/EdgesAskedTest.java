import java.math.BigInteger;

/** Edges of "3 ASKED" and of promises 15 to 18, sentence by sentence. */
public final class EdgesAskedTest {
    private static final int UNKNOWN = -1000000001, OUTSIDE = -1000000002;
    private static final int LOW = Integer.MIN_VALUE, HIGH = Integer.MAX_VALUE;

    public static void main(String[] args) {
        pairedOfNothing();
        pairedUpToSix();
        pairedNone();
        pairedWithTheLatestFrame();
        pairedAtTheFarBound();
        pairedBeyond();
        ruleWithinItsNumbers();
        ruleBeyond();
        ghostsOfNothing();
        ghostsOfOneLine();
        ghostsOfTheLeastAndTheMost();
        ghostsOnEachSize();
        ghostsBeyond();
        ghostsAreMany();
        ghostsLookAtTheSetsAlone();
        digestOfNothing();
        digestGoesRound();
        digestOfAll();
        askedChangesNothing();
        Due.end();
    }

    private static void pairedOfNothing() {
        Due.sentence("PAIRED: what the TRACKS there are now and the CONTACTS of the latest FRAME would be paired as (none of both)");
        TouchPanel x = new TouchPanel();
        Due.due("paired(-1)", x.paired(-1), 0);
        Due.due("paired(0)", x.paired(0), UNKNOWN);
        x.set(0, 0, 50);
        Due.due("paired(-1) before a FRAME", x.paired(-1), 0);
        Due.due("paired(0) before a FRAME", x.paired(0), UNKNOWN);
        x.wipe();
        x.frame(1);
        Due.due("paired(-1) after an empty FRAME", x.paired(-1), 0);
        Due.due("paired(0) after an empty FRAME", x.paired(0), UNKNOWN);
    }

    /** n TRACKS, each at its CONTACT; the CONTACTS are in the other order, as the later one is the STRONGER now. */
    private static void pairedUpToSix() {
        Due.sentence("the CONTACT of a TRACK; at what it comes to all together");
        for (int n = 1; n <= 6; n++) {
            TouchPanel x = Due.panelOf(8, 8);
            for (int i = 0; i < n; i++) {
                x.set(i, i, 90 - i);
            }
            x.frame(1);
            for (int i = 0; i < n; i++) {
                x.set(i, i, 90 + i);
            }
            x.frame(1);
            for (int t = 0; t < n; t++) {
                Due.due("paired(" + t + ") of " + n, x.paired(t), n - 1 - t);
            }
            Due.due("paired(-1) of " + n, x.paired(-1), 0);
            for (int t : new int[] {n, n + 1, 6, 7, 32, 64, -2, -6, 1 << 30, LOW, HIGH}) {
                Due.due("paired(" + t + ") of " + n, x.paired(t), UNKNOWN);
            }
        }
    }

    private static void pairedNone() {
        Due.sentence("the CONTACT of a TRACK; NONE");
        TouchPanel x = Due.panelOf(2, 8);
        x.set(0, 0, 50);
        x.set(0, 7, 51);
        x.frame(1);
        x.set(0, 7, 0);
        x.frame(1);
        Due.due("the one that is missed", x.paired(0), -1);
        Due.due("the other", x.paired(1), 0);
        Due.due("together", x.paired(-1), 4);
        x.wipe();
        x.frame(1);
        Due.due("the one that is left", x.paired(0), -1);
        Due.due("alone", x.paired(-1), 4);
    }

    private static void pairedWithTheLatestFrame() {
        Due.sentence("the CONTACTS of the latest FRAME (what is set later is in none)");
        TouchPanel x = new TouchPanel();
        x.set(0, 0, 50);
        x.frame(1);
        x.wipe();
        x.set(0, 3, 50);
        Due.due("paired(-1)", x.paired(-1), 0);
        Due.due("paired(0)", x.paired(0), 0);
        x.panel(4, 4);
        Due.due("paired(-1) anew", x.paired(-1), 0);
        Due.due("paired(0) anew", x.paired(0), UNKNOWN);
    }

    /** TRACK 0 is 3 away from where the one CONTACT is; the others are farther; all six hold their places. */
    private static void pairedAtTheFarBound() {
        Due.sentence("PAIRED (the WAY D at most, D as it is now)");
        for (int far = 0; far <= 14; far++) {
            TouchPanel x = Due.panelOf(8, 8);
            x.bound(2, 0);
            x.bound(3, 3);
            int[] tracks = {32, 2, 4, 6, 9, 11};
            for (int i = 0; i < 6; i++) {
                x.set(tracks[i] / 8, tracks[i] % 8, 90 - i);
            }
            x.frame(1);
            x.wipe();
            x.set(7, 0, 50);
            x.frame(1);
            x.bound(2, far);
            boolean near = far >= 3;
            Due.due("paired(0), D " + far, x.paired(0), near ? 0 : -1);
            Due.due("paired(-1), D " + far, x.paired(-1), near ? 3 + 5 * (far + 1) : 7 * (far + 1));
        }
    }

    private static void pairedBeyond() {
        Due.sentence("paired: t = NONE at what it comes to, else the CONTACT; UNKNOWN");
        for (int t : new int[] {-2, 1, 5, 6, 31, 32, LOW, HIGH, LOW + 1, UNKNOWN}) {
            TouchPanel x = new TouchPanel();
            x.set(0, 0, 50);
            x.frame(1);
            Due.due("paired(0)", x.paired(0), 0);
            Due.due("paired(" + t + ")", x.paired(t), UNKNOWN);
        }
    }

    /** By STATE: with 1 and MOVED below 2, with 1 and 2 or more, with 2 and d below 2, with 2 and 2 or more. */
    private static final int[][] RULES = {{1, 1, 3, 3}, {1, 2, 3, 3}, {2, 2, 3, 3}, {1, 1, 3, 4}, {2, 2, 4, 4}, {1, 1, 3, 3}};

    private static void ruleWithinItsNumbers() {
        Due.sentence("The STATE that a rule leads to from one (0 .. 5) with n TRACKS (0 .. 6), MOVED of the first m (0 .. 99), d (0 .. 99)");
        for (int state = 0; state <= 5; state++) {
            for (int m = 0; m <= 99; m++) {
                TouchPanel x = new TouchPanel();
                for (int n = 0; n <= 6; n++) {
                    int[] ds = {0, 1, 2, 3, m, 98, 99};
                    for (int d : ds) {
                        int want = n == 0 ? 0 : n >= 3 ? 5 : n == 1 ? RULES[state][m < 2 ? 0 : 1] : RULES[state][d < 2 ? 2 : 3];
                        Due.due("rule(" + state + ", " + n + ", " + m + ", " + d + ")", x.rule(state, n, m, d), want);
                    }
                }
            }
        }
    }

    private static void ruleBeyond() {
        Due.sentence("rule: OUTSIDE");
        int[] most = {5, 6, 99, 99};
        for (int i = 0; i < 4; i++) {
            for (int v : new int[] {-1, most[i] + 1, LOW, HIGH, -99, 256, LOW + 1}) {
                for (int edge = 0; edge < 2; edge++) {
                    int[] a = edge == 0 ? new int[4] : most.clone();
                    a[i] = v;
                    Due.due("rule(" + a[0] + ", " + a[1] + ", " + a[2] + ", " + a[3] + ")",
                            new TouchPanel().rule(a[0], a[1], a[2], a[3]), OUTSIDE);
                }
            }
        }
        Due.due("all four", new TouchPanel().rule(6, 7, 100, 100), OUTSIDE);
        Due.due("all four below", new TouchPanel().rule(-1, -1, -1, -1), OUTSIDE);
    }

    private static void ghostsOfNothing() {
        Due.sentence("GHOSTS: .. some are in each of these rows, some in each of these columns, and none in others (no rows, no columns)");
        for (int k = 0; k <= 16; k++) {
            TouchPanel x = new TouchPanel();
            Due.due("ghosts(0, 0, " + k + ")", x.ghosts(0, 0, k), k == 0 ? 1 : 0);
            for (int set = 1; set <= 15; set++) {
                Due.due("ghosts(" + set + ", 0, " + k + ")", x.ghosts(set, 0, k), 0);
                Due.due("ghosts(0, " + set + ", " + k + ")", x.ghosts(0, set, k), 0);
            }
        }
    }

    private static void ghostsOfOneLine() {
        Due.sentence("GHOSTS: .. some in each (one row: a CELL in each column, no other way)");
        for (int n = 1; n <= 8; n++) {
            for (int k = 0; k <= 16; k++) {
                TouchPanel x = Due.panelOf(8, 8);
                int set = (1 << n) - 1;
                Due.due("ghosts(1, " + set + ", " + k + ")", x.ghosts(1, set, k), k == n ? 1 : 0);
                Due.due("ghosts(" + set + ", 128, " + k + ")", x.ghosts(set, 128, k), k == n ? 1 : 0);
            }
        }
    }

    /** With as few as there are rows or columns, and with all, one less and one more than all. */
    private static void ghostsOfTheLeastAndTheMost() {
        Due.sentence("GHOSTS: in how many ways k CELLS can be chosen (k at its least and its most)");
        long factorial = 1;
        for (int n = 1; n <= 8; n++) {
            factorial *= n;
            int set = (1 << n) - 1;
            TouchPanel x = Due.panelOf(8, 8);
            Due.due("one less than " + n, x.ghosts(set, set, n - 1), 0);
            Due.due(n + " of " + n + " by " + n, x.ghosts(set, set, n), factorial);
        }
        for (int rows = 1; rows <= 8; rows++) {
            for (int columns = 1; columns <= 8; columns++) {
                TouchPanel x = Due.panelOf(8, 8);
                int cells = rows * columns;
                int r = (1 << rows) - 1;
                int c = (1 << columns) - 1;
                for (int k = 0; k < Math.max(rows, columns); k++) {
                    Due.due("too few: " + k + " of " + rows + " by " + columns, x.ghosts(r, c, k), 0);
                }
                if (cells <= 16) {
                    Due.due("all " + cells, x.ghosts(r, c, cells), 1);
                }
                if (cells <= 17 && rows > 1 && columns > 1) {
                    Due.due("all but one of " + cells, x.ghosts(r, c, cells - 1), cells);
                }
                for (int k = cells + 1; k <= 16; k++) {
                    Due.due("too many: " + k + " of " + rows + " by " + columns, x.ghosts(r, c, k), 0);
                }
            }
        }
    }

    /** The SETS of those there are: all rows are known, one more is not. */
    private static void ghostsOnEachSize() {
        Due.sentence("rows, columns: SETS of those there are");
        for (int rows = 2; rows <= 8; rows++) {
            for (int columns = 2; columns <= 8; columns++) {
                TouchPanel x = Due.panelOf(rows, columns);
                int r = 1 << rows;
                int c = 1 << columns;
                Due.due("the last of both", x.ghosts(r / 2, c / 2, 1), 1);
                Due.due("all rows, all columns, none chosen", x.ghosts(r - 1, c - 1, 0), 0);
                Due.due("all rows, one column", x.ghosts(r - 1, 1, rows), 1);
                Due.due("one row, all columns", x.ghosts(1, c - 1, columns), 1);
                Due.due("a row more", x.ghosts(r, 1, 1), OUTSIDE);
                Due.due("a column more", x.ghosts(1, c, 1), OUTSIDE);
                Due.due("a row more, with one there is", x.ghosts(r + 1, 1, 1), OUTSIDE);
                Due.due("a column more, with one there is", x.ghosts(1, c + 1, 1), OUTSIDE);
            }
        }
    }

    private static void ghostsBeyond() {
        Due.sentence("ghosts: OUTSIDE (k 0 .. 16)");
        for (int k : new int[] {-1, 17, 18, -16, 32, 64, 256, LOW, HIGH}) {
            Due.due("ghosts(0, 0, " + k + ")", new TouchPanel().ghosts(0, 0, k), OUTSIDE);
            Due.due("ghosts(15, 15, " + k + ")", new TouchPanel().ghosts(15, 15, k), OUTSIDE);
        }
        for (int set : new int[] {-1, 16, 17, -16, 255, 256, 65536, LOW, HIGH, LOW + 15}) {
            Due.due("ghosts(" + set + ", 1, 1)", new TouchPanel().ghosts(set, 1, 1), OUTSIDE);
            Due.due("ghosts(1, " + set + ", 1)", new TouchPanel().ghosts(1, set, 1), OUTSIDE);
            Due.due("ghosts(" + set + ", " + set + ", 17)", new TouchPanel().ghosts(set, set, 17), OUTSIDE);
        }
    }

    /** Counted without a limit to the numbers, by rows and columns left out, then put back. */
    private static BigInteger counted(int rows, int columns, int k) {
        BigInteger all = BigInteger.ZERO;
        for (int r = 0; r <= rows; r++) {
            for (int c = 0; c <= columns; c++) {
                BigInteger ways = choose(rows, r).multiply(choose(columns, c)).multiply(choose(r * c, k));
                all = (rows - r + columns - c) % 2 == 0 ? all.add(ways) : all.subtract(ways);
            }
        }
        return all;
    }

    private static BigInteger choose(int n, int k) {
        BigInteger ways = BigInteger.ONE;
        for (int i = 0; i < k; i++) {
            ways = ways.multiply(BigInteger.valueOf(n - i)).divide(BigInteger.valueOf(i + 1));
        }
        return ways;
    }

    private static void ghostsAreMany() {
        Due.sentence("GHOSTS (a long; none goes round)");
        Due.due("8 by 8, 16", Due.panelOf(8, 8).ghosts(255, 255, 16), 90028720358360L);
        for (int rows = 0; rows <= 8; rows++) {
            for (int columns = 0; columns <= 8; columns++) {
                TouchPanel x = Due.panelOf(8, 8);
                for (int k = 0; k <= 16; k++) {
                    Due.due(k + " on " + rows + " by " + columns, x.ghosts((1 << rows) - 1, 256 - (1 << 8 - columns), k),
                            counted(rows, columns, k).longValueExact());
                }
            }
        }
    }

    private static void ghostsLookAtTheSetsAlone() {
        Due.sentence("GHOSTS: rows and columns (SETS) on which something is (as told, not as it is)");
        TouchPanel x = new TouchPanel();
        long before = x.ghosts(10, 5, 3);
        x.press(0, 0, 900);
        x.lose(1);
        x.frame(1);
        Due.due("ghosts(10, 5, 3)", x.ghosts(10, 5, 3), before);
        Due.due("it is 4", before, 4);
    }

    private static BigInteger added(BigInteger h, long v) {
        return h.multiply(BigInteger.valueOf(31)).add(BigInteger.valueOf(v));
    }

    /** Without a limit to the number; what a long keeps of it is its last 64 bits. */
    private static BigInteger summed(TouchPanel x) {
        BigInteger h = BigInteger.valueOf(17);
        for (int what = 6; what <= 13; what++) {
            h = added(h, x.told(what));
        }
        for (int row = 0; row < x.told(0); row++) {
            for (int column = 0; column < x.told(1); column++) {
                for (int what = 0; what <= 4; what++) {
                    h = added(h, x.cell(row, column, what));
                }
            }
        }
        for (int k = 0; k < x.told(8); k++) {
            for (int what = 0; what <= 4; what++) {
                h = added(h, x.contact(k, what));
            }
        }
        for (int t = 0; t < x.told(10); t++) {
            for (int what = 0; what <= 4; what++) {
                h = added(h, x.track(t, what));
            }
        }
        return h;
    }

    private static void digestOfNothing() {
        Due.sentence("h = 17; then 31 h and v for each v (no CONTACTS, no TRACKS)");
        TouchPanel x = new TouchPanel();
        Due.due("digest()", x.digest(), summed(x).longValue());
        Due.due("digest()", x.digest(), -5599047187087675375L);
        for (int rows = 2; rows <= 8; rows++) {
            for (int columns = 2; columns <= 8; columns++) {
                TouchPanel y = Due.panelOf(rows, columns);
                Due.due("digest() of " + rows + " by " + columns, y.digest(), summed(y).longValue());
            }
        }
    }

    private static void digestGoesRound() {
        Due.sentence("h = 17; then 31 h and v (a long that goes round)");
        TouchPanel x = Due.panelOf(2, 2);
        x.set(0, 0, 999);
        x.lose(1);
        x.frame(1);
        BigInteger h = summed(x);
        Due.holds("it is beyond a long", h.bitLength() > 64);
        Due.due("digest()", x.digest(), h.longValue());
        Due.due("asked again", x.digest(), h.longValue());
    }

    private static void digestOfAll() {
        Due.sentence("told() 6 to 13; of each CELL cell() 0 to 4, rows, then columns rising; of each CONTACT contact() 0 to 4; of each TRACK track() 0 to 4");
        for (int n = 0; n <= 6; n++) {
            for (int[] size : new int[][] {{8, 8}, {4, 8}, {8, 4}}) {
                TouchPanel x = Due.panelOf(size[0], size[1]);
                for (int i = 0; i < n; i++) {
                    int at = 2 * i + (2 * i / size[1]) % 2;
                    x.set(at / size[1], at % size[1], 990 - i);
                }
                x.lose(size[0] - 1);
                x.frame(1);
                Due.due("CONTACTS", x.told(8), n);
                Due.due("TRACKS", x.told(10), n);
                Due.due("digest() with " + n, x.digest(), summed(x).longValue());
            }
        }
    }

    private static void askedChangesNothing() {
        Due.sentence("ASKED (nothing changes)");
        TouchPanel x = Due.used();
        TouchPanel y = Due.used();
        for (int v = -2; v <= 18; v++) {
            x.told(v);
            x.cell(v, 1, v);
            x.contact(v, v);
            x.track(v, v);
            x.named(v);
            x.paired(v);
            x.rule(v, v, v, v);
            x.ghosts(v, v, v);
            x.digest();
        }
        for (int i = 0; i < 3; i++) {
            Due.due("digest()", x.digest(), y.digest());
            Due.due("LOST", x.told(14), y.told(14));
            Due.due("MISSING", x.told(16), y.told(16));
            x.drift(5, 7);
            y.drift(5, 7);
        }
    }
}
