/** Promises 1 to 7: a new object, panel, bound, set, press, wipe, lose. */
public final class PanelTest {
    private static final int UNKNOWN = -1000000001, OUTSIDE = -1000000002, NOT = -1000000003;
    private static final int LOW = Integer.MIN_VALUE, HIGH = Integer.MAX_VALUE;

    public static void main(String[] args) {
        aNewObject();
        panelBeginsAnew();
        panelRefuses();
        boundsChange();
        boundsRefuse();
        setCells();
        pressCells();
        pressAtEdges();
        setAndPressRefuse();
        wipeCounts();
        loseRows();
        loseRefuses();
        Due.end();
    }

    private static void allAnew(String when, TouchPanel x) {
        for (int what = 6; what <= 16; what++) {
            Due.due(when + " told(" + what + ")", x.told(what), 0);
        }
        for (int row = 0; row < x.told(0); row++) {
            for (int column = 0; column < x.told(1); column++) {
                for (int what = 0; what <= 4; what++) {
                    Due.due(when + " cell(" + row + ", " + column + ", " + what + ")",
                            x.cell(row, column, what), what == 4 ? -1 : 0);
                }
            }
        }
        Due.due(when + " contact(0, 0)", x.contact(0, 0), -1);
        Due.due(when + " track(0, 0)", x.track(0, 0), UNKNOWN);
        Due.due(when + " named(0)", x.named(0), -1);
        Due.due(when + " paired(-1)", x.paired(-1), 0);
    }

    private static void aNewObject() {
        TouchPanel x = new TouchPanel();
        int[] first = {4, 4, 10, 9, 3, 1};
        for (int what = 0; what < first.length; what++) {
            Due.due("new told(" + what + ")", x.told(what), first[what]);
        }
        allAnew("new", x);
        Due.due("new goBack(0)", x.goBack(0), NOT);
        Due.due("new goBack(1)", x.goBack(1), NOT);
    }

    private static void panelBeginsAnew() {
        int[][] sizes = {{2, 2}, {8, 8}, {2, 8}, {8, 2}, {3, 5}, {5, 6}};
        for (int[] size : sizes) {
            TouchPanel x = Due.used();
            x.bound(0, 20);
            x.bound(1, 30);
            x.bound(2, 7);
            x.bound(3, 2);
            String when = "anew " + size[0] + " by " + size[1];
            Due.due(when, x.panel(size[0], size[1]), size[0] * size[1]);
            Due.due(when + " told(0)", x.told(0), size[0]);
            Due.due(when + " told(1)", x.told(1), size[1]);
            Due.due(when + " told(2)", x.told(2), 20);
            Due.due(when + " told(3)", x.told(3), 30);
            Due.due(when + " told(4)", x.told(4), 7);
            Due.due(when + " told(5)", x.told(5), 2);
            allAnew(when, x);
            x.set(1, 1, 50);
            Due.due(when + " frame(1)", x.frame(1), 1);
            Due.due(when + " first name", x.track(0, 0), 0);
            Due.due(when + " cell number", x.track(0, 1), size[1] + 1);
        }
    }

    private static void panelRefuses() {
        int[][] wrong = {{1, 4}, {4, 1}, {9, 4}, {4, 9}, {0, 0}, {-1, 3}, {3, -1}, {LOW, 4}, {4, LOW}, {HIGH, 4}, {4, HIGH}};
        for (int[] size : wrong) {
            Due.unchanged(Due::used, "panel(" + size[0] + ", " + size[1] + ")", x -> x.panel(size[0], size[1]), OUTSIDE);
        }
    }

    private static final int[] LEAST = {1, 1, 0, 0}, MOST = {200, 64, 14, 3}, FIRST = {10, 9, 3, 1};

    private static void boundsChange() {
        TouchPanel x = new TouchPanel();
        for (int what = 0; what < 4; what++) {
            Due.due("bound to least", x.bound(what, LEAST[what]), FIRST[what]);
            Due.due("least told", x.told(2 + what), LEAST[what]);
            Due.due("bound to most", x.bound(what, MOST[what]), LEAST[what]);
            Due.due("most told", x.told(2 + what), MOST[what]);
            Due.due("bound to the same", x.bound(what, MOST[what]), MOST[what]);
        }
    }

    private static void boundsRefuse() {
        for (int what = 0; what < 4; what++) {
            int w = what;
            for (int v : new int[] {LEAST[w] - 1, MOST[w] + 1, LOW, HIGH}) {
                Due.unchanged(Due::used, "bound(" + w + ", " + v + ")", x -> x.bound(w, v), OUTSIDE);
            }
        }
        for (int what : new int[] {-1, 4, LOW, HIGH}) {
            Due.unchanged(Due::used, "bound(" + what + ", 1)", x -> x.bound(what, 1), OUTSIDE);
        }
    }

    private static void setCells() {
        TouchPanel x = new TouchPanel();
        x.panel(2, 3);
        Due.due("set(1, 2, 999)", x.set(1, 2, 999), 0);
        Due.due("set(1, 2, 0)", x.set(1, 2, 0), 999);
        Due.due("set(0, 2, 7)", x.set(0, 2, 7), 0);
        Due.due("set(0, 2, 8)", x.set(0, 2, 8), 7);
        Due.due("its RAW", x.cell(0, 2, 0), 8);
        Due.due("RAW left of it", x.cell(0, 1, 0), 0);
        Due.due("RAW below it", x.cell(1, 2, 0), 0);
        Due.due("its SIGNAL before a FRAME", x.cell(0, 2, 2), 0);
    }

    private static void rawIs(String when, TouchPanel x, int[][] want) {
        for (int row = 0; row < want.length; row++) {
            for (int column = 0; column < want[row].length; column++) {
                Due.due(when + " RAW of " + row + ", " + column, x.cell(row, column, 0), want[row][column]);
            }
        }
    }

    private static void pressCells() {
        TouchPanel x = new TouchPanel();
        Due.due("press(1, 2, 41)", x.press(1, 2, 41), 41);
        rawIs("pressed once", x, new int[][] {{0, 0, 20, 0}, {0, 20, 41, 20}, {0, 0, 20, 0}, {0, 0, 0, 0}});
        Due.due("press(1, 1, 9)", x.press(1, 1, 9), 29);
        rawIs("pressed twice", x, new int[][] {{0, 4, 20, 0}, {4, 29, 45, 20}, {0, 4, 20, 0}, {0, 0, 0, 0}});
        Due.due("press of 1 has no half", x.press(1, 1, 1), 30);
        Due.due("press of 0", x.press(1, 1, 0), 30);
        rawIs("pressed lightly", x, new int[][] {{0, 4, 20, 0}, {4, 30, 45, 20}, {0, 4, 20, 0}, {0, 0, 0, 0}});
    }

    private static void pressAtEdges() {
        TouchPanel x = new TouchPanel();
        x.panel(2, 3);
        Due.due("press at the first corner", x.press(0, 0, 100), 100);
        rawIs("first corner", x, new int[][] {{100, 50, 0}, {50, 0, 0}});
        x.wipe();
        Due.due("press at the last corner", x.press(1, 2, 100), 100);
        rawIs("last corner", x, new int[][] {{0, 0, 50}, {0, 50, 100}});
        Due.due("press to the limit", x.press(1, 2, 999), 999);
        rawIs("limit once", x, new int[][] {{0, 0, 549}, {0, 549, 999}});
        Due.due("press at the limit", x.press(1, 2, 999), 999);
        rawIs("limit twice", x, new int[][] {{0, 0, 999}, {0, 999, 999}});
    }

    private static void setAndPressRefuse() {
        int[][] unknown = {{-1, 0}, {0, -1}, {5, 0}, {0, 6}, {5, 6}, {LOW, 0}, {0, LOW}, {HIGH, 0}, {0, HIGH}};
        for (int[] at : unknown) {
            for (int v : new int[] {0, 5, -1, 1000}) {
                String where = "(" + at[0] + ", " + at[1] + ", " + v + ")";
                Due.unchanged(Due::used, "set" + where, x -> x.set(at[0], at[1], v), UNKNOWN);
                Due.unchanged(Due::used, "press" + where, x -> x.press(at[0], at[1], v), UNKNOWN);
            }
        }
        for (int v : new int[] {-1, 1000, LOW, HIGH}) {
            Due.unchanged(Due::used, "set(4, 5, " + v + ")", x -> x.set(4, 5, v), OUTSIDE);
            Due.unchanged(Due::used, "press(4, 5, " + v + ")", x -> x.press(4, 5, v), OUTSIDE);
        }
    }

    private static void wipeCounts() {
        TouchPanel x = new TouchPanel();
        Due.due("wipe of nothing", x.wipe(), 0);
        x.press(0, 0, 40);
        x.set(3, 3, 1);
        x.set(2, 2, 0);
        Due.due("wipe", x.wipe(), 4);
        rawIs("wiped", x, new int[4][4]);
        Due.due("wipe again", x.wipe(), 0);
        x.set(1, 1, 9);
        x.frame(1);
        x.wipe();
        Due.due("GROUND stays when wiped", x.cell(1, 1, 1), 9);
        Due.due("SIGNAL stays when wiped", x.cell(1, 1, 2), 144);
    }

    private static void loseRows() {
        TouchPanel x = new TouchPanel();
        x.panel(8, 2);
        Due.due("lose(3)", x.lose(3), 8);
        Due.due("lose(0)", x.lose(0), 9);
        Due.due("lose(7)", x.lose(7), 137);
        Due.due("told(14)", x.told(14), 137);
        x.frame(1);
        Due.due("told(14) after a FRAME", x.told(14), 0);
        Due.due("lose(3) anew", x.lose(3), 8);
    }

    private static void loseRefuses() {
        Due.unchanged(Due::used, "lose(1) that is", x -> x.lose(1), NOT);
        for (int row : new int[] {-1, 5, 32, 33, LOW, HIGH}) {
            Due.unchanged(Due::used, "lose(" + row + ")", x -> x.lose(row), UNKNOWN);
        }
    }
}
