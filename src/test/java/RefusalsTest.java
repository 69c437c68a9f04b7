import java.util.ArrayList;
import java.util.List;

/**
 * Every refused call: the first of several refusals, and that it changes nothing. Of two like objects one is asked
 * the call, and then both do the same: what no call tells at once (an IMAGE, the WAY at which STATE became 3, what
 * is held inside) would show in what they answer later.
 */
public final class RefusalsTest {
    private static final int UNKNOWN = -1000000001, OUTSIDE = -1000000002, NOT = -1000000003, FULL = -1000000004;
    private static final int LOW = Integer.MIN_VALUE, HIGH = Integer.MAX_VALUE;

    private interface Call {
        long on(TouchPanel x);
    }

    private interface Maker {
        TouchPanel make();
    }

    public static void main(String[] args) {
        theNumbersOfRefusals();
        onANewOne();
        onOneInUse();
        onOneThatIsFull();
        onOneThatIsCrowded();
        Due.end();
    }

    private static void theNumbersOfRefusals() {
        Due.sentence("They are far below all that is counted: -1000000001 and on");
        Due.due("NONE", TouchPanel.NONE, -1);
        Due.due("UNKNOWN", TouchPanel.UNKNOWN, UNKNOWN);
        Due.due("OUTSIDE", TouchPanel.OUTSIDE, OUTSIDE);
        Due.due("NOT", TouchPanel.NOT, NOT);
        Due.due("FULL", TouchPanel.FULL, FULL);
        Due.sentence("What is refused changes nothing");
    }

    /** Three by eight: STATE 3 at WAY 4, a row LOST, IMAGE 0 of something else, IMAGE 1 not kept. */
    private static TouchPanel inUse() {
        TouchPanel x = Due.panelOf(3, 8);
        x.bound(3, 0);
        x.set(2, 2, 40);
        x.set(0, 6, 30);
        x.frame(2);
        x.keep(0);
        x.wipe();
        x.frame(1);
        x.set(0, 1, 50);
        x.set(0, 5, 60);
        x.set(2, 7, 9);
        x.frame(1);
        x.lose(1);
        Due.due("STATE", x.told(7), 3);
        return x;
    }

    private static TouchPanel full() {
        TouchPanel x = Due.panelOf(2, 2);
        x.set(0, 0, 50);
        for (int i = 0; i < 300; i++) {
            x.frame(30);
        }
        x.frame(1);
        x.lose(1);
        return x;
    }

    private static TouchPanel crowded() {
        TouchPanel x = Due.panelOf(8, 8);
        for (int i = 0; i < 8; i++) {
            x.set(i, i, 900 - i);
        }
        x.frame(1);
        for (int row = 0; row < 8; row++) {
            x.lose(row);
        }
        x.keep(0);
        x.keep(1);
        return x;
    }

    private static void look(TouchPanel x, List<Long> seen) {
        for (int what = 0; what <= 16; what++) {
            seen.add((long) x.told(what));
        }
        seen.add(x.digest());
        for (int t = -1; t <= 5; t++) {
            seen.add((long) x.paired(t));
        }
    }

    /** All that an object answers from now on: as it is, after FRAMES, and back in both IMAGES. */
    private static List<Long> laterAnswers(TouchPanel x) {
        List<Long> seen = new ArrayList<>();
        look(x, seen);
        x.set(0, 1, 0);
        x.set(0, x.told(1) - 1, 70);
        seen.add((long) x.frame(1));
        look(x, seen);
        seen.add((long) x.drift(4, 77));
        look(x, seen);
        for (int image = 0; image <= 1; image++) {
            seen.add((long) x.goBack(image));
            look(x, seen);
            seen.add((long) x.frame(2));
            look(x, seen);
        }
        return seen;
    }

    private static void refused(Maker maker, String call, long want, Call asked) {
        TouchPanel x = maker.make();
        Due.due(call, asked.on(x), want);
        List<Long> got = laterAnswers(x);
        List<Long> due = laterAnswers(maker.make());
        for (int i = 0; i < due.size(); i++) {
            Due.due(call + " changed answer " + i + " of those after it; it", got.get(i), due.get(i));
        }
    }

    private static void onANewOne() {
        Maker fresh = TouchPanel::new;
        everySide(fresh);
        everyBound(fresh);
        everyPlace(fresh, 4, 4);
        everyNumber(fresh);
        for (int t : new int[] {0, 1, -1, 5, 6, LOW, HIGH}) {
            refused(fresh, "track(" + t + ", 0)", UNKNOWN, x -> x.track(t, 0));
            refused(fresh, "track(" + t + ", 5): UNKNOWN comes first", UNKNOWN, x -> x.track(t, 5));
        }
        refused(fresh, "paired(0)", UNKNOWN, x -> x.paired(0));
        refused(fresh, "goBack(0)", NOT, x -> x.goBack(0));
        refused(fresh, "goBack(1)", NOT, x -> x.goBack(1));
    }

    private static void onOneInUse() {
        Maker used = RefusalsTest::inUse;
        everySide(used);
        everyBound(used);
        everyPlace(used, 3, 8);
        everyNumber(used);
        refused(used, "lose(1): it is", NOT, x -> x.lose(1));
        refused(used, "lose(33), though bit 33 is bit 1", UNKNOWN, x -> x.lose(33));
        refused(used, "lose(-31), though bit -31 is bit 1", UNKNOWN, x -> x.lose(-31));
        refused(used, "goBack(1)", NOT, x -> x.goBack(1));
        refused(used, "track(2, 0)", UNKNOWN, x -> x.track(2, 0));
        refused(used, "track(2, -1): UNKNOWN comes first", UNKNOWN, x -> x.track(2, -1));
        refused(used, "track(1, 5)", OUTSIDE, x -> x.track(1, 5));
        refused(used, "track(0, -1)", OUTSIDE, x -> x.track(0, -1));
        refused(used, "paired(2)", UNKNOWN, x -> x.paired(2));
    }

    private static void onOneThatIsFull() {
        Maker full = RefusalsTest::full;
        refused(full, "frame(1)", FULL, x -> x.frame(1));
        refused(full, "frame(30)", FULL, x -> x.frame(30));
        refused(full, "frame(0): OUTSIDE comes first", OUTSIDE, x -> x.frame(0));
        refused(full, "frame(31): OUTSIDE comes first", OUTSIDE, x -> x.frame(31));
        refused(full, "drift(1, 1)", FULL, x -> x.drift(1, 1));
        refused(full, "drift(30, 999999)", FULL, x -> x.drift(30, 999999));
        refused(full, "drift(0, 1): OUTSIDE comes first", OUTSIDE, x -> x.drift(0, 1));
        refused(full, "drift(31, 1): OUTSIDE comes first", OUTSIDE, x -> x.drift(31, 1));
        refused(full, "drift(1, 0): OUTSIDE comes first", OUTSIDE, x -> x.drift(1, 0));
        refused(full, "drift(1, 1000000): OUTSIDE comes first", OUTSIDE, x -> x.drift(1, 1000000));
        refused(full, "panel(1, 2)", OUTSIDE, x -> x.panel(1, 2));
        refused(full, "lose(1): it is", NOT, x -> x.lose(1));
        refused(full, "goBack(0)", NOT, x -> x.goBack(0));
    }

    private static void onOneThatIsCrowded() {
        Maker crowded = RefusalsTest::crowded;
        for (int row = 0; row < 8; row++) {
            int r = row;
            refused(crowded, "lose(" + r + "): it is", NOT, x -> x.lose(r));
        }
        refused(crowded, "track(6, 0)", UNKNOWN, x -> x.track(6, 0));
        refused(crowded, "track(6, 5): UNKNOWN comes first", UNKNOWN, x -> x.track(6, 5));
        refused(crowded, "paired(6)", UNKNOWN, x -> x.paired(6));
        refused(crowded, "contact(6, 0), which is not refused", -1, x -> x.contact(6, 0));
        refused(crowded, "contact(6, 5)", OUTSIDE, x -> x.contact(6, 5));
        everyPlace(crowded, 8, 8);
        everyNumber(crowded);
    }

    private static void everySide(Maker maker) {
        int[][] sides = {{1, 4}, {9, 4}, {4, 1}, {4, 9}, {2, 1}, {8, 9}, {1, 8}, {9, 2}, {0, 0}, {-4, -4}, {LOW, 4}, {4, HIGH}};
        for (int[] side : sides) {
            refused(maker, "panel(" + side[0] + ", " + side[1] + ")", OUTSIDE, x -> x.panel(side[0], side[1]));
        }
    }

    private static void everyBound(Maker maker) {
        int[][] bounds = {{0, 0}, {0, 201}, {1, 0}, {1, 65}, {2, -1}, {2, 15}, {3, -1}, {3, 4}, {-1, 1}, {4, 1}, {4, -1}, {LOW, 1}, {HIGH, 1},
            {0, LOW}, {1, HIGH}, {2, LOW}, {3, HIGH}};
        for (int[] bound : bounds) {
            refused(maker, "bound(" + bound[0] + ", " + bound[1] + ")", OUTSIDE, x -> x.bound(bound[0], bound[1]));
        }
    }

    /** Rows and columns that there are not, those among them that would make the number of a CELL; and with them a wrong number. */
    private static void everyPlace(Maker maker, int rows, int columns) {
        int[][] places = {{-1, 0}, {rows, 0}, {0, -1}, {0, columns}, {1, -1}, {-1, columns}, {rows, -1}, {1 << 30, 0}, {1 << 29, 1},
            {LOW, 0}, {HIGH, 0}, {0, LOW}, {0, HIGH}};
        for (int[] at : places) {
            String where = "(" + at[0] + ", " + at[1] + ", ";
            for (int v : new int[] {0, 50, -1, 1000}) {
                refused(maker, "set" + where + v + "): UNKNOWN comes first", UNKNOWN, x -> x.set(at[0], at[1], v));
                refused(maker, "press" + where + v + "): UNKNOWN comes first", UNKNOWN, x -> x.press(at[0], at[1], v));
            }
            for (int what : new int[] {0, 4, -1, 5}) {
                refused(maker, "cell" + where + what + "): UNKNOWN comes first", UNKNOWN, x -> x.cell(at[0], at[1], what));
            }
        }
        for (int row : new int[] {-1, rows, 31, 32, LOW, HIGH}) {
            refused(maker, "lose(" + row + ")", UNKNOWN, x -> x.lose(row));
        }
    }

    /** A place that there is, with a number that there is not; and all calls without a place. */
    private static void everyNumber(Maker maker) {
        for (int v : new int[] {-1, 1000, LOW, HIGH}) {
            refused(maker, "set(0, 1, " + v + ")", OUTSIDE, x -> x.set(0, 1, v));
            refused(maker, "press(0, 1, " + v + ")", OUTSIDE, x -> x.press(0, 1, v));
            refused(maker, "cell(0, 1, " + v + ")", OUTSIDE, x -> x.cell(0, 1, v));
            refused(maker, "told(" + v + ")", OUTSIDE, x -> x.told(v));
            refused(maker, "contact(0, " + v + ")", OUTSIDE, x -> x.contact(0, v));
            refused(maker, "rule(" + v + ", 1, 1, 1)", OUTSIDE, x -> x.rule(v, 1, 1, 1));
            refused(maker, "ghosts(" + v + ", 1, 1)", OUTSIDE, x -> x.ghosts(v, 1, 1));
            refused(maker, "frame(" + v + ")", OUTSIDE, x -> x.frame(v));
            refused(maker, "drift(" + v + ", 1)", OUTSIDE, x -> x.drift(v, 1));
            refused(maker, "keep(" + v + ")", UNKNOWN, x -> x.keep(v));
            refused(maker, "goBack(" + v + ")", UNKNOWN, x -> x.goBack(v));
        }
        refused(maker, "frame(0)", OUTSIDE, x -> x.frame(0));
        refused(maker, "frame(31)", OUTSIDE, x -> x.frame(31));
        refused(maker, "drift(0, 1)", OUTSIDE, x -> x.drift(0, 1));
        refused(maker, "drift(31, 1)", OUTSIDE, x -> x.drift(31, 1));
        refused(maker, "drift(1, 0)", OUTSIDE, x -> x.drift(1, 0));
        refused(maker, "drift(1, 1000000)", OUTSIDE, x -> x.drift(1, 1000000));
        refused(maker, "told(17)", OUTSIDE, x -> x.told(17));
        refused(maker, "contact(0, 5)", OUTSIDE, x -> x.contact(0, 5));
        refused(maker, "contact(-1, 5)", OUTSIDE, x -> x.contact(-1, 5));
        refused(maker, "ghosts(0, 0, 17)", OUTSIDE, x -> x.ghosts(0, 0, 17));
        refused(maker, "paired(-2)", UNKNOWN, x -> x.paired(-2));
        refused(maker, "keep(2)", UNKNOWN, x -> x.keep(2));
        refused(maker, "keep(32), though bit 32 is bit 0", UNKNOWN, x -> x.keep(32));
        refused(maker, "keep(33), though bit 33 is bit 1", UNKNOWN, x -> x.keep(33));
        refused(maker, "goBack(2)", UNKNOWN, x -> x.goBack(2));
        refused(maker, "goBack(32), though bit 32 is bit 0", UNKNOWN, x -> x.goBack(32));
        refused(maker, "goBack(33), though bit 33 is bit 1", UNKNOWN, x -> x.goBack(33));
    }
}
