/** Edges of "1 THE PANEL" and of promises 1 to 7, sentence by sentence. */
public final class EdgesPanelTest {
    private static final int UNKNOWN = -1000000001, OUTSIDE = -1000000002, NOT = -1000000003;
    private static final int LOW = Integer.MIN_VALUE, HIGH = Integer.MAX_VALUE;
    private static final int[] LEAST = {1, 1, 0, 0}, MOST = {200, 64, 14, 3}, FIRST = {10, 9, 3, 1};

    public static void main(String[] args) {
        sides();
        cellNumbers();
        nextTo();
        rawAndGroundAtFirst();
        boundsFromLeastToMost();
        boundsBeyond();
        boundsOfOthers();
        aNewObject();
        panelAnew();
        panelForgetsWhatIsBeyondIt();
        panelKeepsBounds();
        panelAfterFull();
        setFromLeastToMost();
        setBeyond();
        pressHalves();
        pressToTheMost();
        pressBeyond();
        wipeNoneAndAll();
        wipeChangesRawAlone();
        loseEachAndAll();
        loseAgain();
        loseForTheFrameThatComes();
        Due.end();
    }

    private static void sides() {
        Due.sentence("R rows of C columns (2 .. 8 each; 4, 4 at first)");
        Due.due("told(0)", new TouchPanel().told(0), 4);
        Due.due("told(1)", new TouchPanel().told(1), 4);
        for (int rows = 2; rows <= 8; rows++) {
            for (int columns = 2; columns <= 8; columns++) {
                TouchPanel x = Due.panelOf(rows, columns);
                Due.due("told(0)", x.told(0), rows);
                Due.due("told(1)", x.told(1), columns);
                Due.due("the last CELL", x.cell(rows - 1, columns - 1, 0), 0);
                Due.due("a row more", x.cell(rows, columns - 1, 0), UNKNOWN);
                Due.due("a column more", x.cell(rows - 1, columns, 0), UNKNOWN);
            }
            for (int beyond : new int[] {1, 9, 0, -1, -2, -8, 10, 256 + 4, LOW, HIGH, LOW + 4}) {
                TouchPanel x = new TouchPanel();
                Due.due("panel(" + rows + ", " + beyond + ")", x.panel(rows, beyond), OUTSIDE);
                Due.due("panel(" + beyond + ", " + rows + ")", x.panel(beyond, rows), OUTSIDE);
                Due.due("panel(" + beyond + ", " + beyond + ")", x.panel(beyond, beyond), OUTSIDE);
                Due.due("rows still", x.told(0), 4);
                Due.due("columns still", x.told(1), 4);
            }
        }
    }

    private static void cellNumbers() {
        Due.sentence("CELL C times its row, and its column");
        for (int rows = 2; rows <= 8; rows++) {
            for (int columns = 2; columns <= 8; columns++) {
                for (int at = 0; at < rows * columns; at++) {
                    TouchPanel x = Due.panelOf(rows, columns);
                    x.set(at / columns, at % columns, 10);
                    x.frame(1);
                    Due.due("CONTACT", x.contact(0, 0), at);
                    Due.due("TRACK", x.track(0, 1), at);
                    Due.due("its own PEAK", x.cell(at / columns, at % columns, 4), at);
                }
            }
        }
    }

    /** Numbers that follow one another across the end of a row are not NEXT to one another. */
    private static void nextTo() {
        Due.sentence("NEXT to a CELL: above, below, left, right of it");
        for (int rows = 2; rows <= 8; rows++) {
            for (int columns = 2; columns <= 8; columns++) {
                for (int at = 0; at < rows * columns; at++) {
                    TouchPanel x = Due.panelOf(rows, columns);
                    int row = at / columns;
                    int column = at % columns;
                    x.press(row, column, 100);
                    for (int other = 0; other < rows * columns; other++) {
                        int way = Math.abs(other / columns - row) + Math.abs(other % columns - column);
                        Due.due("RAW of " + other + ", pressed " + at + " of " + rows + " by " + columns,
                                x.cell(other / columns, other % columns, 0), way == 0 ? 100 : way == 1 ? 50 : 0);
                    }
                }
            }
        }
    }

    private static void rawAndGroundAtFirst() {
        Due.sentence("RAW of a CELL: 0 .. 999 (0 at first); GROUND of a CELL, in sixteenths: 0 at first");
        TouchPanel x = new TouchPanel();
        for (int at = 0; at < 16; at++) {
            Due.cellIs(x, at / 4, at % 4, 0, 0);
        }
    }

    private static void boundsFromLeastToMost() {
        Due.sentence("TOUCH T (1 .. 200; 10 at first), PALM P (1 .. 64; 9), FAR D (0 .. 14; 3), GONE L (0 .. 3; 1)");
        for (int what = 0; what < 4; what++) {
            TouchPanel x = new TouchPanel();
            Due.due("at first", x.told(2 + what), FIRST[what]);
            int was = FIRST[what];
            for (int v = LEAST[what]; v <= MOST[what]; v++) {
                Due.due("bound(" + what + ", " + v + ")", x.bound(what, v), was);
                Due.due("told", x.told(2 + what), v);
                was = v;
            }
            for (int other = 0; other < 4; other++) {
                Due.due("BOUND " + other + " while " + what + " changes", x.told(2 + other), other == what ? was : FIRST[other]);
            }
        }
    }

    private static void boundsBeyond() {
        Due.sentence("bound: OUTSIDE");
        for (int what = 0; what < 4; what++) {
            int[] beyond = {LEAST[what] - 1, MOST[what] + 1, -1, 201, LOW, HIGH, LOW + FIRST[what], 65536 + FIRST[what]};
            for (int v : beyond) {
                TouchPanel x = new TouchPanel();
                Due.due("bound(" + what + ", " + v + ")", x.bound(what, v), OUTSIDE);
                Due.due("it stays", x.told(2 + what), FIRST[what]);
            }
        }
        for (int what : new int[] {-1, 4, 5, 32, LOW, HIGH, LOW + 1, 256}) {
            for (int v : new int[] {1, 3, 0, -1, 1000, LOW, HIGH}) {
                Due.due("bound(" + what + ", " + v + ")", new TouchPanel().bound(what, v), OUTSIDE);
            }
        }
    }

    /** What is within one BOUND's numbers may be beyond another's. */
    private static void boundsOfOthers() {
        Due.sentence("what = 0 T, 1 P, 2 D, 3 L becomes v");
        for (int what = 0; what < 4; what++) {
            for (int other = 0; other < 4; other++) {
                for (int v : new int[] {LEAST[other], MOST[other]}) {
                    boolean fits = v >= LEAST[what] && v <= MOST[what];
                    Due.due("bound(" + what + ", " + v + ")", new TouchPanel().bound(what, v), fits ? FIRST[what] : OUTSIDE);
                }
            }
        }
    }

    /** Nothing is there yet: no CONTACTS, no TRACKS, no FRAME, no IMAGE. */
    private static void empty(TouchPanel x) {
        for (int what = 6; what <= 16; what++) {
            Due.due("told(" + what + ")", x.told(what), 0);
        }
        for (int row = 0; row < x.told(0); row++) {
            for (int column = 0; column < x.told(1); column++) {
                Due.cellIs(x, row, column, 0, 0, 0, 0, -1);
            }
        }
        Due.contactIs(x, 0, -1, -1, -1, -1, -1);
        Due.trackIs(x, 0, UNKNOWN, UNKNOWN, UNKNOWN, UNKNOWN, UNKNOWN);
        Due.due("named(0)", x.named(0), -1);
        Due.due("paired(-1)", x.paired(-1), 0);
        Due.due("paired(0)", x.paired(0), UNKNOWN);
        Due.due("wipe()", x.wipe(), 0);
    }

    private static void aNewObject() {
        Due.sentence("Four rows of four columns");
        TouchPanel x = new TouchPanel();
        Due.due("the last CELL", x.cell(3, 3, 0), 0);
        Due.due("no fifth row", x.cell(4, 3, 0), UNKNOWN);
        Due.due("no fifth column", x.cell(3, 4, 0), UNKNOWN);
        empty(x);
        Due.due("goBack(0)", x.goBack(0), NOT);
        Due.due("goBack(1)", x.goBack(1), NOT);
    }

    /** All that can be is: 8 by 8, six CONTACTS, six TRACKS, all kinds of counts, rows LOST and MISSING. */
    private static TouchPanel crowded() {
        TouchPanel x = Due.panelOf(8, 8);
        x.drift(30, 4);
        x.wipe();
        x.bound(1, 1);
        for (int i = 0; i < 7; i++) {
            x.set(i, i % 4 * 2, 900 + i);
        }
        x.set(3, 0, 5);
        x.lose(0);
        x.frame(4);
        x.lose(7);
        x.frame(1);
        x.lose(2);
        x.lose(5);
        return x;
    }

    private static void panelAnew() {
        Due.sentence("Anew: R rows of C columns (all RAW, GROUND 0, no TRACKS, STATE 0, FRAME 0, NAMES from 0, nothing counted)");
        for (int side = 2; side <= 8; side++) {
            TouchPanel x = crowded();
            Due.due("panel(" + side + ", " + (10 - side) + ")", x.panel(side, 10 - side), side * (10 - side));
            empty(x);
            x.set(1, 1, 50);
            Due.due("STATE", x.frame(1), 1);
            Due.trackIs(x, 0, 0, 11 - side, 1, 0, 0);
            Due.due("FRAMES", x.told(6), 1);
        }
        TouchPanel same = crowded();
        Due.due("the same size", same.panel(8, 8), 64);
        empty(same);
    }

    private static void panelForgetsWhatIsBeyondIt() {
        Due.sentence("Anew: all RAW, GROUND 0 (a CELL that was not there for a while has nothing left)");
        TouchPanel x = crowded();
        x.panel(2, 2);
        x.panel(8, 8);
        for (int at = 0; at < 64; at++) {
            Due.cellIs(x, at / 8, at % 8, 0, 0, 0, 0, -1);
        }
        Due.due("no row is LOST", x.told(14), 0);
    }

    private static void panelKeepsBounds() {
        Due.sentence("BOUNDS stay");
        for (int[] edge : new int[][] {LEAST, MOST}) {
            TouchPanel x = new TouchPanel();
            for (int what = 0; what < 4; what++) {
                x.bound(what, edge[what]);
            }
            x.panel(2, 8);
            for (int what = 0; what < 4; what++) {
                Due.due("told(" + (2 + what) + ")", x.told(2 + what), edge[what]);
            }
        }
    }

    private static void panelAfterFull() {
        Due.sentence("Anew: FRAME 0 (it is FULL no more)");
        TouchPanel x = new TouchPanel();
        for (int i = 0; i < 301; i++) {
            x.frame(30);
        }
        Due.due("frame(1)", x.frame(1), -1000000004);
        x.panel(3, 3);
        Due.due("frame(1) anew", x.frame(1), 0);
        Due.due("FRAMES anew", x.told(6), 1);
    }

    private static void setFromLeastToMost() {
        Due.sentence("set: RAW of a CELL (0 .. 999): what it was");
        for (int[] at : new int[][] {{0, 0}, {0, 3}, {3, 0}, {3, 3}, {1, 2}}) {
            TouchPanel x = new TouchPanel();
            int was = 0;
            for (int v : new int[] {0, 1, 999, 998, 999, 0, 0, 500}) {
                Due.due("set to " + v, x.set(at[0], at[1], v), was);
                Due.due("RAW", x.cell(at[0], at[1], 0), v);
                was = v;
            }
            Due.due("no other CELL", x.wipe(), 1);
        }
    }

    private static void setBeyond() {
        Due.sentence("set: UNKNOWN, OUTSIDE");
        for (int v : new int[] {-1, 1000, LOW, HIGH, 65536, LOW + 500}) {
            TouchPanel x = new TouchPanel();
            x.set(3, 3, 7);
            Due.due("set(3, 3, " + v + ")", x.set(3, 3, v), OUTSIDE);
            Due.due("RAW stays", x.cell(3, 3, 0), 7);
        }
        for (int[] at : BESIDE) {
            for (int v : new int[] {0, 999, -1, 1000}) {
                TouchPanel x = new TouchPanel();
                Due.due("set(" + at[0] + ", " + at[1] + ", " + v + ")", x.set(at[0], at[1], v), UNKNOWN);
                Due.due("no CELL took it", x.wipe(), 0);
            }
        }
    }

    /** Not on four by four, though C times the row, and the column, would often make the number of a CELL. */
    private static final int[][] BESIDE = {{-1, 0}, {4, 0}, {0, -1}, {0, 4}, {-1, 4}, {1, -1}, {4, -1}, {-1, -1}, {4, 4},
        {1 << 30, 0}, {(1 << 30) + 1, 1}, {-(1 << 30), 2}, {LOW, 0}, {HIGH, 0}, {0, LOW}, {0, HIGH}, {1, LOW}, {LOW, LOW}, {HIGH, 4}};

    private static void pressHalves() {
        Due.sentence("half of it (cut) at each one NEXT to it");
        for (int v = 0; v <= 999; v++) {
            if (v < 8 || v > 990 || v % 101 == 0) {
                TouchPanel x = Due.panelOf(3, 3);
                Due.due("press(1, 1, " + v + ")", x.press(1, 1, v), v);
                for (int at = 0; at < 9; at++) {
                    int want = at == 4 ? v : at % 2 == 1 ? v / 2 : 0;
                    Due.due("RAW of " + at + " with " + v, x.cell(at / 3, at % 3, 0), want);
                }
            }
        }
    }

    private static void pressToTheMost() {
        Due.sentence("RAW 999 at most");
        int[][] cases = {{998, 1, 999}, {998, 2, 999}, {999, 0, 999}, {999, 1, 999}, {999, 999, 999}, {0, 999, 999}, {1, 998, 999},
            {500, 498, 998}, {500, 499, 999}, {500, 500, 999}};
        for (int[] c : cases) {
            TouchPanel x = new TouchPanel();
            x.set(2, 1, c[0]);
            Due.due(c[1] + " more than " + c[0], x.press(2, 1, c[1]), c[2]);
            Due.due("RAW", x.cell(2, 1, 0), c[2]);
        }
        int[][] beside = {{998, 2, 999}, {998, 3, 999}, {998, 4, 999}, {500, 998, 999}, {500, 997, 998}, {999, 999, 999}, {999, 0, 999}};
        for (int[] c : beside) {
            for (int[] at : new int[][] {{0, 1}, {2, 1}, {1, 0}, {1, 2}}) {
                TouchPanel x = new TouchPanel();
                x.set(at[0], at[1], c[0]);
                Due.due("the CELL itself", x.press(1, 1, c[1]), c[1]);
                Due.due("half of " + c[1] + " more than " + c[0], x.cell(at[0], at[1], 0), c[2]);
            }
        }
    }

    private static void pressBeyond() {
        Due.sentence("press: UNKNOWN, OUTSIDE");
        for (int v : new int[] {-1, 1000, -2, 1001, LOW, HIGH, 65536, LOW + 500}) {
            TouchPanel x = new TouchPanel();
            x.set(3, 3, 7);
            x.set(3, 2, 999);
            Due.due("press(3, 3, " + v + ")", x.press(3, 3, v), OUTSIDE);
            Due.due("RAW stays", x.cell(3, 3, 0), 7);
            Due.due("RAW NEXT to it stays", x.cell(3, 2, 0), 999);
            Due.due("no other", x.wipe(), 2);
        }
        for (int[] at : BESIDE) {
            for (int v : new int[] {0, 999, -1, 1000}) {
                TouchPanel x = new TouchPanel();
                Due.due("press(" + at[0] + ", " + at[1] + ", " + v + ")", x.press(at[0], at[1], v), UNKNOWN);
                Due.due("no CELL took it", x.wipe(), 0);
            }
        }
    }

    private static void wipeNoneAndAll() {
        Due.sentence("All RAW are 0: of how many CELLS they were not");
        for (int rows = 2; rows <= 8; rows += 3) {
            for (int columns = 2; columns <= 8; columns += 3) {
                TouchPanel x = Due.panelOf(rows, columns);
                Due.due("none", x.wipe(), 0);
                for (int at = 0; at < rows * columns; at++) {
                    x.set(at / columns, at % columns, at % 2 == 0 ? 1 : 999);
                }
                Due.due("all", x.wipe(), rows * columns);
                Due.due("the first", x.cell(0, 0, 0), 0);
                Due.due("the last", x.cell(rows - 1, columns - 1, 0), 0);
                Due.due("none again", x.wipe(), 0);
                x.set(rows - 1, columns - 1, 1);
                Due.due("one", x.wipe(), 1);
            }
        }
    }

    private static void wipeChangesRawAlone() {
        Due.sentence("All RAW are 0");
        TouchPanel x = Due.used();
        int rows = x.told(0);
        int columns = x.told(1);
        int[] told = new int[17];
        for (int what = 0; what <= 16; what++) {
            told[what] = x.told(what);
        }
        int[] ground = new int[rows * columns];
        for (int at = 0; at < ground.length; at++) {
            ground[at] = x.cell(at / columns, at % columns, 1);
        }
        x.wipe();
        for (int what = 0; what <= 16; what++) {
            Due.due("told(" + what + ") after wipe", x.told(what), told[what]);
        }
        for (int at = 0; at < ground.length; at++) {
            Due.cellIs(x, at / columns, at % columns, 0, ground[at]);
        }
    }

    private static void loseEachAndAll() {
        Due.sentence("A row is LOST: rows that are (a SET)");
        for (int rows = 2; rows <= 8; rows++) {
            TouchPanel up = Due.panelOf(rows, 2);
            TouchPanel down = Due.panelOf(rows, 2);
            int lostUp = 0;
            int lostDown = 0;
            for (int row = 0; row < rows; row++) {
                lostUp |= 1 << row;
                lostDown |= 1 << (rows - 1 - row);
                Due.due("lose(" + row + ")", up.lose(row), lostUp);
                Due.due("told(14)", up.told(14), lostUp);
                Due.due("lose(" + (rows - 1 - row) + ")", down.lose(rows - 1 - row), lostDown);
            }
            Due.due("all of them", up.told(14), (1 << rows) - 1);
            Due.due("one more", up.lose(rows), UNKNOWN);
            Due.due("one less", up.lose(-1), UNKNOWN);
            Due.due("all of them still", up.told(14), (1 << rows) - 1);
        }
    }

    private static void loseAgain() {
        Due.sentence("lose: UNKNOWN, NOT: it is");
        for (int rows = 2; rows <= 8; rows++) {
            for (int row = 0; row < rows; row++) {
                TouchPanel x = Due.panelOf(rows, 3);
                x.lose(row);
                Due.due("lose(" + row + ") again", x.lose(row), NOT);
                Due.due("it is LOST still", x.told(14), 1 << row);
                // bit 32 more or less is the same bit in Java's shifts, but no row
                for (int beyond : new int[] {row + 32, row - 32, row + 64, LOW + row, rows, -1, HIGH, LOW}) {
                    Due.due("lose(" + beyond + ")", x.lose(beyond), UNKNOWN);
                }
                Due.due("no other is", x.told(14), 1 << row);
            }
        }
    }

    private static void loseForTheFrameThatComes() {
        Due.sentence("A row may be LOST for the FRAME that comes");
        TouchPanel x = new TouchPanel();
        x.lose(3);
        x.frame(1);
        Due.due("none after it", x.told(14), 0);
        Due.due("lose(3) for the next one", x.lose(3), 8);
        x.drift(1, 1);
        Due.due("none after drift", x.told(14), 0);
        x.lose(3);
        x.panel(4, 4);
        Due.due("none anew", x.told(14), 0);
        Due.due("lose(3) anew", x.lose(3), 8);
    }
}
