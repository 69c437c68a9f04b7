/** Edges of promises 10 to 14, sentence by sentence. */
public final class EdgesToldTest {
    private static final int UNKNOWN = -1000000001, OUTSIDE = -1000000002;
    private static final int LOW = Integer.MIN_VALUE, HIGH = Integer.MAX_VALUE;
    /** Six CELLS of 8 by 8 of which no two are NEXT. */
    private static final int[] SIX = {0, 7, 27, 36, 56, 63};

    public static void main(String[] args) {
        toldOfNothing();
        toldOfAll();
        toldBeyond();
        cellBeforeAFrame();
        cellAtTheCorners();
        cellBeyond();
        contactsThereAreNot();
        contactsUpToSix();
        contactBeyond();
        centreAtTheEdges();
        centreIsCut();
        heaviest();
        tracksThereAreNot();
        tracksUpToSix();
        trackBeyond();
        namesThereAreNot();
        namesThatEnded();
        Due.end();
    }

    private static TouchPanel six() {
        TouchPanel x = Due.panelOf(8, 8);
        for (int i = 0; i < 6; i++) {
            x.set(SIX[i] / 8, SIX[i] % 8, 900 - i);
        }
        x.frame(1);
        return x;
    }

    private static void toldOfNothing() {
        Due.sentence("CONTACTS, PALMS, TOUCHED, MISSING in the latest FRAME; 0 before");
        TouchPanel x = Due.panelOf(8, 8);
        for (int at = 0; at < 64; at++) {
            x.set(at / 8, at % 8, 999);
        }
        x.lose(0);
        for (int what : new int[] {6, 7, 8, 9, 10, 11, 12, 13, 15, 16}) {
            Due.due("told(" + what + ")", x.told(what), 0);
        }
        Due.due("told(14), which is not of a FRAME", x.told(14), 1);
        x.frame(1);
        Due.due("told(9) then", x.told(9), 1);
        Due.due("told(15) then", x.told(15), 56);
        Due.due("told(16) then", x.told(16), 8);
        x.panel(8, 8);
        for (int what = 6; what <= 16; what++) {
            Due.due("told(" + what + ") anew", x.told(what), 0);
        }
    }

    /** The most that each can be. */
    private static void toldOfAll() {
        Due.sentence("0 R, 1 C, 2 T, 3 P, 4 D, 5 L, .. 8 CONTACTS, 10 TRACKS, 14 LOST, 15 TOUCHED, 16 MISSING (the most of each)");
        TouchPanel x = six();
        Due.due("R", x.told(0), 8);
        Due.due("C", x.told(1), 8);
        x.bound(0, 200);
        x.bound(1, 64);
        x.bound(2, 14);
        x.bound(3, 3);
        int[] bounds = {200, 64, 14, 3};
        for (int what = 0; what < 4; what++) {
            Due.due("told(" + (2 + what) + ")", x.told(2 + what), bounds[what]);
        }
        Due.due("FRAMES", x.told(6), 1);
        Due.due("STATE", x.told(7), 5);
        Due.due("CONTACTS", x.told(8), 6);
        Due.due("TRACKS", x.told(10), 6);
        Due.due("next NAME", x.told(13), 6);
        for (int at = 0; at < 64; at++) {
            x.set(at / 8, at % 8, 999);
        }
        x.frame(1);
        Due.due("TOUCHED", x.told(15), 64);
        Due.due("CONTACTS of one BLOB", x.told(8), 1);
        for (int row = 0; row < 8; row++) {
            x.lose(row);
        }
        Due.due("LOST", x.told(14), 255);
        x.frame(1);
        Due.due("MISSING", x.told(16), 64);
        Due.due("TOUCHED of none", x.told(15), 0);
        Due.due("LOST then", x.told(14), 0);
    }

    private static void toldBeyond() {
        Due.sentence("told: OUTSIDE");
        for (int what : new int[] {-1, 17, 18, -17, 32, 256, LOW, HIGH, LOW + 1}) {
            Due.due("told(" + what + ")", six().told(what), OUTSIDE);
            Due.due("told(" + what + ") of a new one", new TouchPanel().told(what), OUTSIDE);
        }
    }

    private static void cellBeforeAFrame() {
        Due.sentence("in the latest FRAME 2 SIGNAL (sixteenths; -99999: none; 0 before), 3 1 it was TOUCHED, 0 not, 4 its PEAK (a CELL; NONE)");
        TouchPanel x = new TouchPanel();
        x.set(0, 0, 999);
        x.set(3, 3, 999);
        x.lose(0);
        Due.cellIs(x, 0, 0, 999, 0, 0, 0, -1);
        Due.cellIs(x, 3, 3, 999, 0, 0, 0, -1);
        x.frame(1);
        Due.cellIs(x, 0, 0, 999, 0, -99999, 0, -1);
        Due.cellIs(x, 3, 3, 999, 0, 15984, 1, 15);
        x.wipe();
        Due.cellIs(x, 3, 3, 0, 0, 15984, 1, 15);
        x.panel(4, 4);
        Due.cellIs(x, 0, 0, 0, 0, 0, 0, -1);
        Due.cellIs(x, 3, 3, 0, 0, 0, 0, -1);
    }

    private static void cellAtTheCorners() {
        Due.sentence("Of a CELL: what = 0 RAW, 1 GROUND (sixteenths) .. 4 its PEAK");
        for (int[] size : new int[][] {{2, 2}, {2, 8}, {8, 2}, {8, 8}, {3, 5}}) {
            TouchPanel x = Due.panelOf(size[0], size[1]);
            int last = size[0] * size[1] - 1;
            x.set(0, 0, 9);
            x.set(size[0] - 1, size[1] - 1, 10);
            x.frame(1);
            Due.cellIs(x, 0, 0, 9, 9, 144, 0, -1);
            Due.cellIs(x, size[0] - 1, size[1] - 1, 10, 0, 160, 1, last);
        }
    }

    private static void cellBeyond() {
        Due.sentence("cell: UNKNOWN, OUTSIDE");
        int[][] beside = {{-1, 0}, {8, 0}, {0, -1}, {0, 8}, {-1, 8}, {1, -8}, {8, -64}, {1 << 29, 0}, {-(1 << 29), 0}, {LOW, 0}, {0, LOW},
            {HIGH, 0}, {0, HIGH}, {LOW, LOW}, {HIGH, HIGH}};
        for (int[] at : beside) {
            for (int what : new int[] {0, 4, -1, 5, LOW, HIGH}) {
                Due.due("cell(" + at[0] + ", " + at[1] + ", " + what + ")", six().cell(at[0], at[1], what), UNKNOWN);
            }
        }
        for (int what : new int[] {-1, 5, 6, -5, 32, LOW, HIGH}) {
            Due.due("cell(0, 0, " + what + ")", six().cell(0, 0, what), OUTSIDE);
            Due.due("cell(7, 7, " + what + ")", six().cell(7, 7, what), OUTSIDE);
            Due.due("cell(3, 3, " + what + ") of a new one", new TouchPanel().cell(3, 3, what), OUTSIDE);
        }
    }

    private static void contactsThereAreNot() {
        Due.sentence("Of CONTACT k .. NONE: there is none");
        TouchPanel x = new TouchPanel();
        x.bound(1, 1);
        x.press(1, 1, 50);
        for (int k : new int[] {-1, 0, 1, 5, 6, LOW, HIGH}) {
            Due.contactIs(x, k, -1, -1, -1, -1, -1);
        }
        x.frame(1);
        Due.due("a PALM", x.told(9), 1);
        Due.contactIs(x, 0, -1, -1, -1, -1, -1);
        x.wipe();
        x.set(1, 1, 50);
        x.frame(1);
        Due.contactIs(x, 0, 5, 1, 800, 256, 256);
        Due.contactIs(x, 1, -1, -1, -1, -1, -1);
        Due.contactIs(x, -1, -1, -1, -1, -1, -1);
        x.wipe();
        Due.contactIs(x, 0, 5, 1, 800, 256, 256);
        x.frame(1);
        Due.contactIs(x, 0, -1, -1, -1, -1, -1);
        Due.due("though there is a TRACK", x.told(10), 1);
    }

    private static void contactsUpToSix() {
        Due.sentence("CONTACT k (0 .. 5 at most)");
        TouchPanel x = six();
        for (int k = 0; k < 6; k++) {
            Due.contactIs(x, k, SIX[k], 1, 16 * (900 - k), 256 * (SIX[k] % 8), 256 * (SIX[k] / 8));
        }
        for (int k : new int[] {-1, 6, 7, 32, 64, -6, 1 << 30, LOW, HIGH}) {
            Due.contactIs(x, k, -1, -1, -1, -1, -1);
        }
    }

    private static void contactBeyond() {
        Due.sentence("contact: OUTSIDE (what)");
        for (int what : new int[] {-1, 5, 6, -5, LOW, HIGH}) {
            for (int k : new int[] {0, 5, 6, -1, LOW, HIGH}) {
                Due.due("contact(" + k + ", " + what + ")", six().contact(k, what), OUTSIDE);
                Due.due("contact(" + k + ", " + what + ") of none", new TouchPanel().contact(k, what), OUTSIDE);
            }
        }
    }

    private static void centreAtTheEdges() {
        Due.sentence("CENTRE: 256 times the sum of SIGNAL times the column (row), by HEAVY (of one CELL: 256 times its own)");
        for (int[] size : new int[][] {{2, 2}, {2, 8}, {8, 2}, {8, 8}, {3, 5}}) {
            for (int at = 0; at < size[0] * size[1]; at++) {
                TouchPanel x = Due.panelOf(size[0], size[1]);
                int row = at / size[1];
                int column = at % size[1];
                x.set(row, column, 10 + at);
                x.frame(1);
                Due.contactIs(x, 0, at, 1, 16 * (10 + at), 256 * column, 256 * row);
            }
        }
    }

    private static void centreIsCut() {
        Due.sentence("CENTRE: .. by HEAVY (cut)");
        for (int a = 10; a <= 30; a++) {
            for (int b = 10; b <= 30; b++) {
                TouchPanel x = Due.panelOf(2, 2);
                Due.put(x, 0, a, b);
                x.frame(1);
                Due.contactIs(x, 0, a >= b ? 0 : 1, 2, 16 * (a + b), 256 * b / (a + b), 0);
                TouchPanel y = Due.panelOf(2, 2);
                y.set(0, 1, a);
                y.set(1, 1, b);
                y.frame(1);
                Due.contactIs(y, 0, a >= b ? 1 : 3, 2, 16 * (a + b), 256, 256 * b / (a + b));
            }
        }
    }

    private static void heaviest() {
        Due.sentence("HEAVY of a CONTACT: SIGNALS of its BLOB, together (the most)");
        TouchPanel x = Due.panelOf(8, 8);
        x.bound(1, 64);
        for (int at = 0; at < 64; at++) {
            x.set(at / 8, at % 8, 999);
        }
        x.frame(1);
        Due.contactIs(x, 0, 0, 64, 64 * 15984, 896, 896);
        for (int at = 0; at < 64; at++) {
            x.set(at / 8, at % 8, at % 8 == 7 ? 999 : 10 + at % 8);
        }
        x.frame(1);
        int sum = 8 * (999 * 7 + 10 * 21 + 91);
        int heavy = 8 * (999 + 70 + 21);
        Due.contactIs(x, 0, 7, 64, 16 * heavy, 256 * sum / heavy, 896);
    }

    private static void tracksThereAreNot() {
        Due.sentence("track: UNKNOWN (a TRACK that there is not)");
        TouchPanel x = new TouchPanel();
        for (int t : new int[] {-1, 0, 1, 5, 6, LOW, HIGH}) {
            for (int what : new int[] {0, 4, -1, 5, LOW, HIGH}) {
                Due.due("track(" + t + ", " + what + ") of none", x.track(t, what), UNKNOWN);
            }
        }
        x.set(1, 1, 50);
        Due.due("before a FRAME", x.track(0, 0), UNKNOWN);
        x.frame(1);
        Due.trackIs(x, 0, 0, 5, 1, 0, 0);
        Due.due("after the last", x.track(1, 0), UNKNOWN);
        x.wipe();
        x.frame(2);
        Due.due("one that ended", x.track(0, 0), UNKNOWN);
    }

    private static void tracksUpToSix() {
        Due.sentence("Of TRACK t: what = 0 NAME, 1 PEAK, 2 AGE, 3 MISSED, 4 MOVED (6 at most)");
        TouchPanel x = six();
        for (int t = 0; t < 6; t++) {
            Due.trackIs(x, t, t, SIX[t], 1, 0, 0);
        }
        for (int t : new int[] {-1, 6, 7, -6, 32, 64, 1 << 30, LOW, HIGH}) {
            Due.trackIs(x, t, UNKNOWN, UNKNOWN, UNKNOWN, UNKNOWN, UNKNOWN);
        }
    }

    private static void trackBeyond() {
        Due.sentence("track: UNKNOWN, OUTSIDE");
        for (int what : new int[] {-1, 5, 6, -5, 32, LOW, HIGH}) {
            Due.due("track(0, " + what + ")", six().track(0, what), OUTSIDE);
            Due.due("track(5, " + what + ")", six().track(5, what), OUTSIDE);
            Due.due("track(6, " + what + "): UNKNOWN comes first", six().track(6, what), UNKNOWN);
            Due.due("track(-1, " + what + "): UNKNOWN comes first", six().track(-1, what), UNKNOWN);
        }
    }

    private static void namesThereAreNot() {
        Due.sentence("The TRACK with a NAME; NONE");
        for (int name : new int[] {-1, 0, 1, 6, LOW, HIGH, UNKNOWN}) {
            Due.due("named(" + name + ") of a new one", new TouchPanel().named(name), -1);
        }
        TouchPanel x = six();
        for (int name = 0; name < 6; name++) {
            Due.due("named(" + name + ")", x.named(name), name);
        }
        for (int name : new int[] {-1, 6, 7, LOW, HIGH, UNKNOWN, 256, LOW + 1}) {
            Due.due("named(" + name + ")", x.named(name), -1);
        }
    }

    private static void namesThatEnded() {
        Due.sentence("The TRACK with a NAME; NONE (one that ended is there no more)");
        TouchPanel x = six();
        x.bound(3, 0);
        x.set(0, 0, 0);
        x.set(7, 7, 0);
        x.frame(1);
        int[] tracks = {-1, 0, 1, 2, 3, -1, -1};
        for (int name = 0; name < tracks.length; name++) {
            Due.due("named(" + name + ")", x.named(name), tracks[name]);
        }
        x.set(0, 0, 50);
        x.frame(1);
        Due.due("the old NAME does not come back", x.named(0), -1);
        Due.due("a new one does", x.named(6), 4);
        x.panel(8, 8);
        Due.due("anew", x.named(6), -1);
    }
}
