/** Promises 15 to 18: paired, rule, ghosts, digest. */
public final class AskedTest {
    private static final int UNKNOWN = -1000000001, OUTSIDE = -1000000002;
    private static final int LOW = Integer.MIN_VALUE, HIGH = Integer.MAX_VALUE;

    public static void main(String[] args) {
        pairedTracks();
        pairedByTheBoundsThereAre();
        pairedRefuses();
        ruleTable();
        ruleRefuses();
        ghostsByCounting();
        ghostsKnown();
        ghostsRefuse();
        digestIsTheSum();
        digestOfANewOne();
        Due.end();
    }

    /** Three tracks in a row of which the middle one is missed, two contacts. */
    private static TouchPanel threeAndTwo() {
        TouchPanel x = new TouchPanel();
        x.panel(2, 8);
        x.bound(3, 3);
        x.set(0, 0, 50);
        x.set(0, 3, 50);
        x.set(0, 7, 50);
        x.frame(1);
        x.wipe();
        x.set(0, 1, 40);
        x.set(0, 6, 50);
        x.frame(1);
        return x;
    }

    private static void pairedTracks() {
        TouchPanel x = threeAndTwo();
        Due.due("TRACKS", x.told(10), 3);
        Due.unchanged(AskedTest::threeAndTwo, "paired(-1)", y -> y.paired(-1), 4);
        Due.unchanged(AskedTest::threeAndTwo, "paired(0)", y -> y.paired(0), 1);
        Due.unchanged(AskedTest::threeAndTwo, "paired(1)", y -> y.paired(1), -1);
        Due.unchanged(AskedTest::threeAndTwo, "paired(2)", y -> y.paired(2), 0);
        x.wipe();
        Due.due("RAW alone changes no CONTACT", x.paired(-1), 4);
        x.frame(1);
        Due.due("three and none", x.paired(-1), 12);
        Due.due("none for the first", x.paired(0), -1);
    }

    /** More CONTACTS than TRACKS can be asked of only where six TRACKS leave no room. */
    private static void pairedByTheBoundsThereAre() {
        TouchPanel x = new TouchPanel();
        x.panel(2, 8);
        x.bound(2, 0);
        x.bound(3, 3);
        for (int column = 0; column < 6; column += 2) {
            x.set(0, column, 50);
            x.set(1, column + 1, 50);
        }
        x.frame(1);
        x.wipe();
        x.set(0, 7, 50);
        x.frame(1);
        Due.due("too far with 0", x.paired(-1), 7);
        x.bound(2, 3);
        Due.due("TRACK 2 is 3 away", x.paired(2), 0);
        Due.due("six with 3", x.paired(-1), 3 + 5 * 4);
        x.bound(2, 14);
        Due.due("with 14: the nearest still", x.paired(2), 0);
        Due.due("TRACK 5 is 3 away too, but later", x.paired(5), -1);
        Due.due("six with 14", x.paired(-1), 3 + 5 * 15);
        x.frame(1);
        Due.due("then it is there", x.paired(-1), 5 * 15);
    }

    private static void pairedRefuses() {
        for (int t : new int[] {-2, 3, 6, LOW, HIGH}) {
            Due.unchanged(AskedTest::threeAndTwo, "paired(" + t + ")", x -> x.paired(t), UNKNOWN);
        }
        Due.unchanged(TouchPanel::new, "paired(0) of none", x -> x.paired(0), UNKNOWN);
        Due.unchanged(TouchPanel::new, "paired(-1) of none", x -> x.paired(-1), 0);
    }

    /** By STATE: with 1 and little MOVED, with 1 and much, with 2 and a like WAY, with 2 and another one. */
    private static final int[][] RULES = {{1, 1, 3, 3}, {1, 2, 3, 3}, {2, 2, 3, 3}, {1, 1, 3, 4}, {2, 2, 4, 4}, {1, 1, 3, 3}};

    private static void ruleTable() {
        for (int state = 0; state <= 5; state++) {
            TouchPanel x = Due.used();
            String before = Due.shown(x);
            for (int m : new int[] {0, 1, 2, 3, 99}) {
                for (int d : new int[] {0, 1, 2, 3, 99}) {
                    for (int n = 0; n <= 6; n++) {
                        int want = n == 0 ? 0 : n > 2 ? 5 : n == 1 ? RULES[state][m >= 2 ? 1 : 0] : RULES[state][d >= 2 ? 3 : 2];
                        Due.due("rule(" + state + ", " + n + ", " + m + ", " + d + ")", x.rule(state, n, m, d), want);
                    }
                }
            }
            Due.holds("rule changes nothing", Due.shown(x).equals(before));
        }
    }

    private static void ruleRefuses() {
        int[] most = {5, 6, 99, 99};
        for (int i = 0; i < 4; i++) {
            for (int v : new int[] {-1, most[i] + 1, LOW, HIGH}) {
                int[] a = {0, 0, 0, 0};
                a[i] = v;
                Due.unchanged(Due::used, "rule with " + v + " at " + i, x -> x.rule(a[0], a[1], a[2], a[3]), OUTSIDE);
            }
        }
    }

    /** Counts row by row which columns are covered so far, by every choice of columns in the row. */
    private static long countedGhosts(int rows, int columns, int k) {
        long[][] ways = new long[256][17];
        ways[0][0] = 1;
        for (int row = 0; row < 8; row++) {
            if ((rows >> row & 1) == 1) {
                long[][] then = new long[256][17];
                for (int choice = 1; choice < 256; choice++) {
                    if ((choice & ~columns) == 0) {
                        addRow(ways, then, choice);
                    }
                }
                ways = then;
            }
        }
        return ways[columns][k];
    }

    private static void addRow(long[][] ways, long[][] then, int choice) {
        int more = Integer.bitCount(choice);
        for (int covered = 0; covered < 256; covered++) {
            for (int k = 0; k + more <= 16; k++) {
                then[covered | choice][k + more] += ways[covered][k];
            }
        }
    }

    private static void ghostsByCounting() {
        int[] sets = {0, 1, 2, 128, 3, 129, 7, 42, 15, 170, 31, 63, 127, 254, 255};
        for (int rows : sets) {
            TouchPanel x = Due.panelOf(8, 8);
            for (int columns : sets) {
                for (int k = 0; k <= 16; k += rows % 3 == 0 ? 1 : 4) {
                    Due.due("ghosts(" + rows + ", " + columns + ", " + k + ")",
                            x.ghosts(rows, columns, k), countedGhosts(rows, columns, k));
                }
            }
        }
    }

    private static void ghostsKnown() {
        Due.unchanged(Due::used, "ghosts(0, 0, 0)", x -> x.ghosts(0, 0, 0), 1);
        Due.unchanged(Due::used, "ghosts(0, 0, 1)", x -> x.ghosts(0, 0, 1), 0);
        Due.unchanged(Due::used, "ghosts(0, 1, 0)", x -> x.ghosts(0, 1, 0), 0);
        Due.unchanged(Due::used, "ghosts(1, 0, 1)", x -> x.ghosts(1, 0, 1), 0);
        Due.unchanged(Due::used, "ghosts(5, 6, 2)", x -> x.ghosts(5, 6, 2), 2);
        Due.unchanged(Due::used, "ghosts(5, 6, 3)", x -> x.ghosts(5, 6, 3), 4);
        Due.unchanged(Due::used, "ghosts(5, 6, 5)", x -> x.ghosts(5, 6, 5), 0);
        Due.unchanged(Due::used, "ghosts(31, 63, 5)", x -> x.ghosts(31, 63, 5), 0);
        Due.unchanged(Due::used, "ghosts(31, 31, 5)", x -> x.ghosts(31, 31, 5), 120);
    }

    private static void ghostsRefuse() {
        int[][] wrong = {{32, 0, 0}, {0, 64, 0}, {-1, 0, 0}, {0, -1, 0}, {0, 0, -1}, {0, 0, 17},
            {LOW, 0, 0}, {0, LOW, 0}, {0, 0, LOW}, {HIGH, 0, 0}, {0, HIGH, 0}, {0, 0, HIGH}};
        for (int[] a : wrong) {
            Due.unchanged(Due::used, "ghosts(" + a[0] + ", " + a[1] + ", " + a[2] + ")", x -> x.ghosts(a[0], a[1], a[2]), OUTSIDE);
        }
    }

    private static long summed(TouchPanel x) {
        long h = 17;
        for (int what = 6; what <= 13; what++) {
            h = 31 * h + x.told(what);
        }
        for (int row = 0; row < x.told(0); row++) {
            for (int column = 0; column < x.told(1); column++) {
                for (int what = 0; what <= 4; what++) {
                    h = 31 * h + x.cell(row, column, what);
                }
            }
        }
        for (int k = 0; k < x.told(8); k++) {
            for (int what = 0; what <= 4; what++) {
                h = 31 * h + x.contact(k, what);
            }
        }
        for (int t = 0; t < x.told(10); t++) {
            for (int what = 0; what <= 4; what++) {
                h = 31 * h + x.track(t, what);
            }
        }
        return h;
    }

    private static void digestIsTheSum() {
        TouchPanel x = Due.used();
        Due.due("digest of one in use", x.digest(), summed(x));
        for (int seed = 1; seed < 60; seed++) {
            TouchPanel y = Due.panelOf(3, 7);
            Due.due("digest anew", y.digest(), summed(y));
            y.drift(1 + seed % 30, seed);
            Due.due("digest after drift", y.digest(), summed(y));
        }
        long before = x.digest();
        Due.due("asked again", x.digest(), before);
        x.bound(0, 77);
        x.lose(3);
        Due.due("BOUNDS and LOST rows are not in it", x.digest(), before);
    }

    /** Eight numbers told, then 16 times four 0 and -1. */
    private static void digestOfANewOne() {
        long h = 17;
        for (int i = 0; i < 8; i++) {
            h *= 31;
        }
        for (int at = 0; at < 16; at++) {
            h = h * 31 * 31 * 31 * 31 * 31 - 1;
        }
        Due.due("digest of a new one", new TouchPanel().digest(), h);
    }
}
