/** Promises 10 to 14: told, cell, contact, track, named. */
public final class ToldTest {
    private static final int UNKNOWN = -1000000001, OUTSIDE = -1000000002;
    private static final int LOW = Integer.MIN_VALUE, HIGH = Integer.MAX_VALUE;

    public static void main(String[] args) {
        toldAll();
        toldAreOfTheLatestFrame();
        toldRefuses();
        cellAll();
        cellRefuses();
        contactAll();
        centresAreCut();
        contactRefuses();
        trackAll();
        trackRefuses();
        namedAll();
        Due.end();
    }

    /** Six by five: two fingers, the stronger one at the lower right, a row that is missing, and ends of both kinds. */
    private static TouchPanel scene() {
        TouchPanel x = new TouchPanel();
        x.panel(6, 5);
        x.bound(0, 12);
        x.bound(1, 4);
        x.bound(2, 2);
        x.bound(3, 0);
        x.set(5, 0, 30);
        x.frame(1);
        x.wipe();
        x.frame(1);
        x.set(5, 0, 30);
        x.frame(4);
        x.wipe();
        x.press(1, 1, 40);
        x.set(4, 4, 50);
        x.set(3, 4, 12);
        x.set(5, 2, 3);
        x.lose(0);
        x.frame(1);
        x.lose(2);
        x.lose(4);
        return x;
    }

    private static void toldAll() {
        TouchPanel x = scene();
        // the press loses its upper cell to the row that is missing, so four cells are left to it
        int[] want = {6, 5, 12, 4, 2, 0, 7, 3, 2, 0, 2, 1, 1, 4, 20, 6, 5};
        for (int what = 0; what < want.length; what++) {
            Due.due("told(" + what + ")", x.told(what), want[what]);
        }
        x.frame(1);
        x.bound(1, 1);
        x.frame(1);
        Due.due("PALMS told", x.told(9), 2);
        Due.due("CONTACTS told", x.told(8), 0);
    }

    private static void toldAreOfTheLatestFrame() {
        TouchPanel x = scene();
        x.wipe();
        x.bound(1, 1);
        x.bound(0, 200);
        Due.due("CONTACTS of the latest FRAME", x.told(8), 2);
        Due.due("TOUCHED in the latest FRAME", x.told(15), 6);
        Due.due("AREA in the latest FRAME", x.contact(1, 1), 4);
        x.lose(0);
        Due.due("MISSING in the latest FRAME", x.told(16), 5);
        x.frame(1);
        Due.due("CONTACTS then", x.told(8), 0);
        Due.due("TOUCHED then", x.told(15), 0);
        Due.due("MISSING then, the row between two that are LOST is not", x.told(16), 5);
    }

    private static void toldRefuses() {
        for (int what : new int[] {-1, 17, LOW, HIGH}) {
            Due.unchanged(ToldTest::scene, "told(" + what + ")", x -> x.told(what), OUTSIDE);
        }
    }

    private static void cellIs(TouchPanel x, int row, int column, int... want) {
        for (int what = 0; what < want.length; what++) {
            Due.due("cell(" + row + ", " + column + ", " + what + ")", x.cell(row, column, what), want[what]);
        }
    }

    private static void cellAll() {
        TouchPanel x = scene();
        cellIs(x, 1, 1, 40, 0, 640, 1, 6);
        cellIs(x, 1, 2, 20, 0, 320, 1, 6);
        cellIs(x, 0, 1, 20, 0, -99999, 0, -1);
        cellIs(x, 4, 4, 50, 0, 800, 1, 24);
        cellIs(x, 3, 4, 12, 0, 192, 1, 24);
        cellIs(x, 5, 2, 3, 3, 48, 0, -1);
        cellIs(x, 5, 0, 0, 0, 0, 0, -1);
        x.set(1, 1, 7);
        cellIs(x, 1, 1, 7, 0, 640, 1, 6);
    }

    private static void cellRefuses() {
        int[][] unknown = {{-1, 0}, {0, -1}, {6, 0}, {0, 5}, {LOW, 0}, {0, LOW}, {HIGH, 0}, {0, HIGH}};
        for (int[] at : unknown) {
            for (int what : new int[] {0, 4, -1, 5}) {
                Due.unchanged(ToldTest::scene, "cell(" + at[0] + ", " + at[1] + ", " + what + ")", x -> x.cell(at[0], at[1], what), UNKNOWN);
            }
        }
        for (int what : new int[] {-1, 5, LOW, HIGH}) {
            Due.unchanged(ToldTest::scene, "cell(5, 4, " + what + ")", x -> x.cell(5, 4, what), OUTSIDE);
        }
    }

    private static void contactIs(TouchPanel x, int k, int... want) {
        for (int what = 0; what < want.length; what++) {
            Due.due("contact(" + k + ", " + what + ")", x.contact(k, what), want[what]);
        }
    }

    private static void contactAll() {
        TouchPanel x = scene();
        // 800 at row 4 and 192 at row 3, both in column 4
        contactIs(x, 0, 24, 2, 992, 1024, 256 * (800 * 4 + 192 * 3) / 992);
        // 640 in the middle, 320 left, right, below
        contactIs(x, 1, 6, 4, 1600, 256, 256 * (1280 + 320 * 2) / 1600);
        contactIs(x, 2, -1, -1, -1, -1, -1);
    }

    private static void centresAreCut() {
        TouchPanel x = new TouchPanel();
        x.panel(8, 8);
        x.bound(1, 64);
        for (int row = 0; row < 8; row++) {
            for (int column = 0; column < 8; column++) {
                x.set(row, column, 999);
            }
        }
        x.frame(1);
        // all cells are alike: each leads up, then left, to the first one
        contactIs(x, 0, 0, 64, 64 * 15984, 896, 896);
        x.wipe();
        x.set(6, 6, 20);
        x.set(6, 7, 10);
        x.set(7, 6, 11);
        x.frame(1);
        contactIs(x, 0, 54, 3, 656, 256 * (31 * 6 + 10 * 7) / 41, 256 * (30 * 6 + 11 * 7) / 41);
    }

    private static void contactRefuses() {
        for (int what : new int[] {-1, 5, LOW, HIGH}) {
            for (int k : new int[] {0, 1, 2, -1, LOW, HIGH}) {
                Due.unchanged(ToldTest::scene, "contact(" + k + ", " + what + ")", x -> x.contact(k, what), OUTSIDE);
            }
        }
        for (int k : new int[] {-1, 2, 5, 6, 7, LOW, HIGH}) {
            Due.unchanged(ToldTest::scene, "contact(" + k + ", 0)", x -> x.contact(k, 0), -1);
        }
    }

    private static void trackIs(TouchPanel x, int t, int... want) {
        for (int what = 0; what < want.length; what++) {
            Due.due("track(" + t + ", " + what + ")", x.track(t, what), want[what]);
        }
    }

    private static void trackAll() {
        TouchPanel x = scene();
        trackIs(x, 0, 2, 24, 1, 0, 0);
        trackIs(x, 1, 3, 6, 1, 0, 0);
        x.bound(3, 2);
        x.wipe();
        x.set(2, 2, 60);
        x.set(1, 2, 60);
        x.frame(1);
        x.frame(1);
        trackIs(x, 0, 2, 24, 1, 2, 0);
        trackIs(x, 1, 3, 7, 3, 0, 1);
    }

    private static void trackRefuses() {
        for (int t : new int[] {-1, 2, 5, 6, LOW, HIGH}) {
            for (int what : new int[] {0, 4, -1, 5}) {
                Due.unchanged(ToldTest::scene, "track(" + t + ", " + what + ")", x -> x.track(t, what), UNKNOWN);
            }
        }
        for (int what : new int[] {-1, 5, LOW, HIGH}) {
            Due.unchanged(ToldTest::scene, "track(1, " + what + ")", x -> x.track(1, what), OUTSIDE);
        }
    }

    private static void namedAll() {
        int[][] want = {{0, -1}, {1, -1}, {2, 0}, {3, 1}, {4, -1}, {-1, -1}, {LOW, -1}, {HIGH, -1}};
        for (int[] name : want) {
            Due.unchanged(ToldTest::scene, "named(" + name[0] + ")", x -> x.named(name[0]), name[1]);
        }
    }
}
