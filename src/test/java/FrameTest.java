/** Promise 8: frame, with all seven steps of a FRAME. */
public final class FrameTest {
    private static final int OUTSIDE = -1000000002, FULL = -1000000004, LOST = -99999;

    public static void main(String[] args) {
        groundFollows();
        groundNeverLearnsAFinger();
        lostRowsAreBridged();
        lostRowsAreMissing();
        lostInTheFirstFrameAlone();
        peaks();
        palms();
        contactsInOrder();
        leastWayTogether();
        ofLikeOnesTheFirst();
        farBoundHolds();
        missedAndGone();
        tapsAndLifts();
        sixTracksAtMost();
        tracksCloseUp();
        statesOfOneFinger();
        statesOfTwoFingers();
        statesOfMoreFingers();
        pinchIsMeasuredFromWhereItBegan();
        refusals();
        full();
        Due.end();
    }

    /** RAW of one row. */
    private static void put(TouchPanel x, int row, int... charges) {
        for (int column = 0; column < charges.length; column++) {
            x.set(row, column, charges[column]);
        }
    }

    private static void row(String when, TouchPanel x, int row, int what, int... want) {
        for (int column = 0; column < want.length; column++) {
            Due.due(when + ": cell(" + row + ", " + column + ", " + what + ")", x.cell(row, column, what), want[column]);
        }
    }

    private static void trackIs(String when, TouchPanel x, int t, int... want) {
        for (int what = 0; what < want.length; what++) {
            Due.due(when + ": track(" + t + ", " + what + ")", x.track(t, what), want[what]);
        }
    }

    private static TouchPanel panelOf(int rows, int columns) {
        TouchPanel x = new TouchPanel();
        x.panel(rows, columns);
        return x;
    }

    private static void groundFollows() {
        TouchPanel x = panelOf(2, 4);
        put(x, 0, 5, 9, 1, 0);
        x.frame(1);
        row("first", x, 0, 1, 5, 9, 1, 0);
        row("first", x, 0, 2, 80, 144, 16, 0);
        x.frame(1);
        row("second", x, 0, 1, 9, 17, 1, 0);
        row("second", x, 0, 2, 75, 135, 15, 0);
        put(x, 0, 0, 0, 0, 0);
        x.frame(2);
        row("downwards, cut towards 0", x, 0, 1, 9, 15, 1, 0);
        row("downwards", x, 0, 2, -9, -16, -1, 0);
    }

    private static void groundNeverLearnsAFinger() {
        TouchPanel x = panelOf(2, 4);
        put(x, 0, 10, 0, 0, 999);
        x.frame(30);
        row("TOUCHED", x, 0, 1, 0, 0, 0, 0);
        row("TOUCHED", x, 0, 2, 160, 0, 0, 15984);
        row("TOUCHED", x, 0, 3, 1, 0, 0, 1);
        Due.due("TOUCHED told", x.told(15), 2);
        x.bound(0, 11);
        x.frame(1);
        row("TOUCH 11", x, 0, 3, 0, 0, 0, 1);
        row("TOUCH 11", x, 0, 1, 10, 0, 0, 0);
        row("TOUCH 11, SIGNAL ahead of the change", x, 0, 2, 160, 0, 0, 15984);
        Due.due("TOUCHED told again", x.told(15), 1);
    }

    private static void lostRowsAreBridged() {
        TouchPanel x = panelOf(4, 4);
        put(x, 0, 0, 20, 3, 1);
        put(x, 1, 99, 99, 99, 99);
        put(x, 2, 0, 11, 4, 0);
        x.lose(1);
        x.frame(1);
        row("bridged", x, 1, 2, 0, 248, 56, 8);
        row("bridged", x, 1, 3, 0, 1, 0, 0);
        row("bridged, GROUND stays", x, 1, 1, 0, 0, 0, 0);
        row("RAW stays", x, 1, 0, 99, 99, 99, 99);
        Due.due("nothing is MISSING", x.told(16), 0);
        Due.due("TOUCHED", x.told(15), 3);
    }

    private static void lostRowsAreMissing() {
        TouchPanel x = panelOf(6, 3);
        for (int row = 0; row < 6; row++) {
            put(x, row, 5, 20, 5);
        }
        x.lose(0);
        x.lose(2);
        x.lose(4);
        x.lose(5);
        x.frame(1);
        int[] lost = {LOST, LOST, LOST};
        row("first row", x, 0, 2, lost);
        row("third row is bridged", x, 2, 2, 80, 320, 80);
        row("two side by side", x, 4, 2, lost);
        row("last row", x, 5, 2, lost);
        row("MISSING is not TOUCHED", x, 4, 3, 0, 0, 0);
        row("MISSING has no PEAK", x, 4, 4, -1, -1, -1);
        row("GROUND of MISSING stays", x, 4, 1, 0, 0, 0);
        row("GROUND of a bridged row stays", x, 2, 1, 0, 0, 0);
        row("GROUND of others follows", x, 3, 1, 5, 0, 5);
        Due.due("MISSING", x.told(16), 9);
        Due.due("TOUCHED", x.told(15), 3);
    }

    private static void lostInTheFirstFrameAlone() {
        TouchPanel x = panelOf(2, 2);
        x.set(0, 0, 50);
        x.lose(0);
        x.frame(2);
        Due.due("MISSING of the second FRAME", x.told(16), 0);
        Due.due("AGE, as it was LOST in one of two", x.track(0, 2), 1);
        x.lose(0);
        x.frame(1);
        Due.due("MISSING of the latest FRAME", x.told(16), 2);
        Due.due("MISSED", x.track(0, 3), 1);
    }

    private static void peaks() {
        TouchPanel x = panelOf(4, 4);
        put(x, 0, 20, 20, 20, 0);
        put(x, 1, 0, 0, 0, 30);
        put(x, 2, 30, 20, 0, 0);
        put(x, 3, 0, 40, 41, 42);
        x.frame(1);
        row("of like ones the lesser number", x, 0, 4, 0, 0, 0, -1);
        row("aslant is not NEXT", x, 1, 4, -1, -1, -1, 7);
        row("to the STRONGEST", x, 2, 4, 8, 15, -1, -1);
        row("and so on", x, 3, 4, -1, 15, 15, 15);
        int[][] contacts = {{15, 4}, {7, 1}, {8, 1}, {0, 3}};
        for (int k = 0; k < contacts.length; k++) {
            Due.due("PEAK of CONTACT " + k, x.contact(k, 0), contacts[k][0]);
            Due.due("AREA of CONTACT " + k, x.contact(k, 1), contacts[k][1]);
        }
        Due.due("CONTACTS", x.told(8), 4);
        longWayUp();
    }

    /** One hill that winds through the whole panel. */
    private static void longWayUp() {
        TouchPanel x = panelOf(8, 8);
        int charge = 20;
        for (int row = 0; row < 8; row += 2) {
            for (int i = 0; i < 8; i++) {
                x.set(row, row % 4 == 0 ? i : 7 - i, charge++);
            }
            if (row < 6) {
                x.set(row + 1, row % 4 == 0 ? 7 : 0, charge++);
            }
        }
        x.bound(1, 64);
        x.frame(1);
        Due.due("CONTACTS of one long hill", x.told(8), 1);
        Due.due("AREA of one long hill", x.contact(0, 1), 35);
        Due.due("PEAK of its foot", x.cell(0, 0, 4), 48);
    }

    private static void palms() {
        TouchPanel x = panelOf(3, 8);
        put(x, 0, 20, 30, 20, 0, 50, 40);
        x.bound(1, 2);
        x.frame(1);
        Due.due("PALMS", x.told(9), 1);
        Due.due("CONTACTS", x.told(8), 1);
        Due.due("the CONTACT", x.contact(0, 0), 4);
        row("a PALM has a PEAK too", x, 0, 4, 1, 1, 1, -1, 4, 4);
        Due.due("TRACKS", x.told(10), 1);
        x.bound(1, 3);
        x.frame(1);
        Due.due("no more PALMS", x.told(9), 0);
        Due.due("CONTACTS then", x.told(8), 2);
        x.bound(1, 1);
        x.frame(1);
        Due.due("PALMS both", x.told(9), 2);
        Due.due("no CONTACTS", x.told(8), 0);
    }

    private static void contactsInOrder() {
        TouchPanel x = panelOf(2, 8);
        put(x, 0, 20, 0, 30, 0, 20, 0, 31, 0);
        put(x, 1, 0, 30, 0, 15, 0, 99, 0, 20);
        x.frame(1);
        int[] order = {13, 6, 2, 9, 0, 4};
        for (int k = 0; k < order.length; k++) {
            Due.due("in order: contact(" + k + ", 0)", x.contact(k, 0), order[k]);
        }
        Due.due("six at most", x.contact(6, 0), -1);
        Due.due("CONTACTS", x.told(8), 6);
        Due.due("PALMS", x.told(9), 0);
        row("one that is no CONTACT has its PEAK", x, 1, 4, -1, 9, -1, 11, -1, 13, -1, 15);
    }

    /** The nearest CONTACT of the second TRACK goes to the first, so that both go on. */
    private static void leastWayTogether() {
        TouchPanel x = panelOf(2, 8);
        put(x, 0, 50, 0, 0, 40, 0, 0);
        x.frame(1);
        put(x, 0, 0, 0, 50, 0, 0, 40);
        x.frame(1);
        trackIs("together", x, 0, 0, 2, 2, 0, 2);
        trackIs("together", x, 1, 1, 5, 2, 0, 2);
        Due.due("TRACKS", x.told(10), 2);
        manyMoveTogether();
    }

    private static void manyMoveTogether() {
        TouchPanel x = panelOf(8, 8);
        for (int i = 0; i < 6; i++) {
            x.set(i, i % 2, 60 - i);
        }
        x.bound(2, 2);
        x.frame(1);
        x.wipe();
        for (int i = 0; i < 6; i++) {
            x.set(i, i % 2 + 2, 40 + i);
        }
        x.frame(1);
        Due.due("six TRACKS still", x.told(13), 6);
        for (int t = 0; t < 6; t++) {
            Due.due("MOVED of TRACK " + t, x.track(t, 4), 2);
            Due.due("row of TRACK " + t, x.track(t, 1) / 8, t);
        }
    }

    private static void ofLikeOnesTheFirst() {
        TouchPanel x = panelOf(2, 8);
        put(x, 0, 0, 0, 50);
        x.frame(1);
        put(x, 0, 0, 50, 0, 50);
        x.frame(1);
        trackIs("lesser CONTACT", x, 0, 0, 1, 2, 0, 1);
        trackIs("the other begins", x, 1, 1, 3, 1, 0, 0);
        x.panel(2, 8);
        put(x, 0, 0, 0, 50);
        x.frame(1);
        put(x, 0, 0, 50, 0, 51);
        x.frame(1);
        trackIs("lesser CONTACT is the STRONGER", x, 0, 0, 3, 2, 0, 1);
        x.panel(2, 8);
        put(x, 0, 50, 0, 50);
        x.frame(1);
        put(x, 0, 0, 50, 0);
        x.frame(1);
        trackIs("none last", x, 0, 0, 1, 2, 0, 1);
        trackIs("none last", x, 1, 1, 2, 1, 1, 0);
        x.panel(2, 2);
        put(x, 0, 50, 0);
        put(x, 1, 0, 49);
        x.frame(1);
        put(x, 0, 0, 50);
        put(x, 1, 51, 0);
        x.frame(1);
        trackIs("of two like pairings the first", x, 0, 0, 2, 2, 0, 1);
        trackIs("of two like pairings the first", x, 1, 1, 1, 2, 0, 1);
    }

    private static void farBoundHolds() {
        TouchPanel x = panelOf(8, 8);
        x.set(0, 0, 50);
        x.frame(1);
        x.set(0, 0, 0);
        x.set(1, 2, 50);
        x.frame(1);
        trackIs("as far as FAR", x, 0, 0, 10, 2, 0, 3);
        x.set(1, 2, 0);
        x.set(3, 4, 50);
        x.frame(1);
        trackIs("farther than FAR", x, 0, 0, 10, 2, 1, 3);
        trackIs("so another begins", x, 1, 1, 28, 1, 0, 0);
        x.panel(8, 8);
        x.bound(2, 14);
        x.set(0, 7, 50);
        x.frame(1);
        x.wipe();
        x.set(7, 0, 50);
        x.frame(1);
        trackIs("from corner to corner", x, 0, 0, 56, 2, 0, 14);
        x.bound(2, 0);
        x.frame(1);
        trackIs("it stays, with FAR 0", x, 0, 0, 56, 3, 0, 14);
        x.wipe();
        x.set(7, 1, 50);
        x.frame(1);
        trackIs("one step is too far for 0", x, 0, 0, 56, 3, 1, 14);
    }

    private static void missedAndGone() {
        for (int gone = 0; gone <= 3; gone++) {
            TouchPanel x = panelOf(2, 2);
            x.bound(3, gone);
            x.set(0, 0, 50);
            x.frame(1);
            x.wipe();
            for (int missed = 1; missed <= gone; missed++) {
                x.frame(1);
                trackIs("GONE " + gone, x, 0, 0, 0, 1, missed, 0);
            }
            Due.due("GONE " + gone + ": STATE when it ends", x.frame(1), 0);
            Due.due("GONE " + gone + ": TRACKS", x.told(10), 0);
        }
        TouchPanel x = panelOf(2, 2);
        x.set(0, 0, 50);
        x.frame(1);
        x.wipe();
        x.frame(1);
        x.set(0, 1, 50);
        x.frame(1);
        trackIs("back after a FRAME", x, 0, 0, 1, 2, 0, 1);
    }

    private static TouchPanel held(int frames, int... columns) {
        TouchPanel x = panelOf(2, 8);
        x.bound(3, 0);
        x.set(0, columns[0], 50);
        x.frame(frames);
        for (int i = 1; i < columns.length; i++) {
            x.wipe();
            x.set(0, columns[i], 50);
            x.frame(1);
        }
        x.wipe();
        x.frame(1);
        return x;
    }

    private static void ends(String when, TouchPanel x, int taps, int lifts) {
        Due.due(when + ": TAPS", x.told(11), taps);
        Due.due(when + ": LIFTS", x.told(12), lifts);
    }

    private static void tapsAndLifts() {
        ends("AGE 1", held(1, 3), 1, 0);
        ends("AGE 3", held(3, 3), 1, 0);
        ends("AGE 4", held(4, 3), 0, 1);
        ends("AGE 3, MOVED 1", held(2, 3, 4), 1, 0);
        ends("AGE 2, MOVED 2", held(1, 3, 5), 0, 1);
        ends("AGE 3, MOVED 1 and 1", held(1, 3, 4, 3), 0, 1);
    }

    private static void sixTracksAtMost() {
        TouchPanel x = panelOf(8, 8);
        for (int i = 0; i < 6; i++) {
            x.set(0, i < 4 ? 2 * i : 0, 50);
            x.set(2, i < 4 ? 0 : 2 * (i - 4), 50);
        }
        x.frame(1);
        Due.due("six", x.told(10), 6);
        x.wipe();
        x.set(7, 7, 50);
        x.set(7, 5, 50);
        Due.due("no room for more", x.frame(1), 5);
        Due.due("six still", x.told(10), 6);
        Due.due("no NAME is given", x.told(13), 6);
        Due.due("what it would come to", x.paired(-1), 8 * 4);
        x.frame(1);
        Due.due("all six end, and both begin in the same FRAME", x.told(10), 2);
        Due.due("TAPS", x.told(11), 6);
        trackIs("begun then", x, 0, 6, 61, 1, 0, 0);
        trackIs("begun then", x, 1, 7, 63, 1, 0, 0);
    }

    private static void tracksCloseUp() {
        TouchPanel x = panelOf(2, 8);
        x.bound(3, 0);
        put(x, 0, 50, 0, 0, 40, 0, 0, 30, 0);
        x.frame(2);
        put(x, 0, 50, 0, 0, 0, 0, 0, 0, 30);
        x.set(1, 4, 90);
        x.bound(2, 1);
        x.frame(1);
        trackIs("ahead of the one that ended", x, 0, 0, 0, 3, 0, 0);
        trackIs("behind the one that ended", x, 1, 2, 7, 3, 0, 1);
        trackIs("begun last", x, 2, 3, 12, 1, 0, 0);
        ends("close up", x, 1, 0);
    }

    private static void statesOfOneFinger() {
        TouchPanel x = panelOf(2, 8);
        Due.due("nothing", x.frame(1), 0);
        x.set(0, 0, 50);
        Due.due("one", x.frame(1), 1);
        Due.due("it stays", x.frame(3), 1);
        put(x, 0, 0, 50);
        Due.due("MOVED 1", x.frame(1), 1);
        put(x, 0, 0, 0, 50);
        Due.due("MOVED 2", x.frame(1), 2);
        Due.due("it rests", x.frame(5), 2);
        x.set(0, 6, 50);
        Due.due("a second one", x.frame(1), 3);
        x.set(0, 6, 0);
        Due.due("missed for a FRAME", x.frame(1), 3);
        Due.due("gone", x.frame(1), 1);
        Due.due("MOVED 2 still", x.frame(1), 2);
        x.wipe();
        Due.due("missed", x.frame(1), 2);
        Due.due("ended", x.frame(1), 0);
    }

    private static void statesOfTwoFingers() {
        TouchPanel x = panelOf(2, 8);
        x.bound(3, 0);
        put(x, 0, 0, 0, 0, 50, 0, 50);
        Due.due("two at once", x.frame(1), 3);
        put(x, 0, 0, 0, 50, 0, 0, 50);
        Due.due("WAY 1 more", x.frame(1), 3);
        put(x, 0, 0, 50, 0, 0, 0, 50);
        Due.due("WAY 2 more", x.frame(1), 4);
        put(x, 0, 0, 0, 0, 50, 0, 50);
        Due.due("WAY as at first", x.frame(2), 4);
        x.set(0, 5, 0);
        Due.due("one of them", x.frame(1), 2);
        x.set(0, 0, 50);
        Due.due("two again", x.frame(1), 3);
        put(x, 0, 0, 50, 50, 0, 0, 0);
        Due.due("they melt into one", x.frame(1), 1);
    }

    private static void statesOfMoreFingers() {
        TouchPanel x = panelOf(2, 8);
        x.bound(3, 0);
        put(x, 0, 50, 0, 50, 0, 50);
        Due.due("three", x.frame(1), 5);
        put(x, 0, 50, 0, 50, 0, 0);
        Due.due("two of three", x.frame(1), 3);
        put(x, 0, 50, 0, 50, 0, 50);
        Due.due("three again", x.frame(1), 5);
        put(x, 0, 0, 0, 50, 0, 0);
        Due.due("one of three", x.frame(1), 1);
        put(x, 0, 50, 0, 50, 0, 50, 0, 50);
        Due.due("four", x.frame(1), 5);
        x.wipe();
        Due.due("none", x.frame(1), 0);
    }

    /** The WAY counts from that at which STATE became 3, not from the FRAME before; it is measured anew each time. */
    private static void pinchIsMeasuredFromWhereItBegan() {
        TouchPanel x = panelOf(2, 8);
        x.bound(3, 0);
        put(x, 0, 0, 0, 50, 0, 0, 50);
        Due.due("WAY 3", x.frame(1), 3);
        put(x, 0, 0, 0, 0, 50, 0, 50);
        Due.due("WAY 2", x.frame(1), 3);
        put(x, 0, 0, 0, 50, 0, 0, 50);
        Due.due("WAY 3", x.frame(1), 3);
        put(x, 0, 0, 50, 0, 0, 0, 50);
        Due.due("WAY 4, 2 more than the least one", x.frame(1), 3);
        put(x, 0, 0, 50, 0, 0, 0, 0, 50);
        Due.due("WAY 5", x.frame(1), 4);
        put(x, 0, 0, 50, 0, 0, 50, 0, 50);
        Due.due("three", x.frame(1), 5);
        put(x, 0, 0, 0, 0, 0, 50, 0, 50);
        Due.due("WAY 2, anew", x.frame(1), 3);
        put(x, 0, 0, 0, 0, 50, 0, 0, 50);
        Due.due("WAY 3", x.frame(1), 3);
        put(x, 0, 0, 0, 0, 50, 0, 0, 0, 50);
        Due.due("WAY 4", x.frame(1), 4);
        x.panel(2, 8);
        x.bound(3, 0);
        put(x, 0, 50, 0, 0, 0, 0, 50);
        Due.due("WAY 5", x.frame(1), 3);
        put(x, 0, 0, 50, 0, 0, 50, 0);
        Due.due("WAY 3: nearer by 2", x.frame(1), 4);
    }

    private static void refusals() {
        for (int n : new int[] {0, -1, 31, Integer.MIN_VALUE, Integer.MAX_VALUE}) {
            Due.unchanged(Due::used, "frame(" + n + ")", x -> x.frame(n), OUTSIDE);
        }
        TouchPanel y = panelOf(2, 2);
        y.frame(30);
        y.frame(1);
        Due.due("FRAMES", y.told(6), 31);
    }

    private static TouchPanel justFull() {
        TouchPanel x = panelOf(2, 2);
        x.set(0, 0, 50);
        for (int i = 0; i < 300; i++) {
            x.frame(30);
        }
        Due.due("FRAMES", x.told(6), 9000);
        Due.due("9000 is not above 9000", x.frame(30), 1);
        Due.due("FRAMES then", x.told(6), 9030);
        Due.due("AGE then", x.track(0, 2), 9030);
        return x;
    }

    private static void full() {
        Due.unchanged(FrameTest::justFull, "frame(1) when FULL", x -> x.frame(1), FULL);
        Due.unchanged(FrameTest::justFull, "frame(31) when FULL", x -> x.frame(31), OUTSIDE);
        Due.unchanged(FrameTest::justFull, "drift(1, 1) when FULL", x -> x.drift(1, 1), FULL);
        Due.unchanged(FrameTest::justFull, "drift(1, 0) when FULL", x -> x.drift(1, 0), OUTSIDE);
        Due.unchanged(FrameTest::justFull, "drift(31, 1) when FULL", x -> x.drift(31, 1), OUTSIDE);
        TouchPanel x = justFull();
        x.panel(2, 2);
        Due.due("anew it is not FULL", x.frame(1), 0);
    }
}
