/** Edges of promises 19 and 20, sentence by sentence. */
public final class EdgesImagesTest {
    private static final int UNKNOWN = -1000000001, NOT = -1000000003, FULL = -1000000004;
    private static final int LOW = Integer.MIN_VALUE, HIGH = Integer.MAX_VALUE;

    public static void main(String[] args) {
        imagesThereAre();
        imagesThereAreNot();
        notKept();
        keptOfNothing();
        keptOfAll();
        keptRowsAndBounds();
        keptCountsAndNames();
        keptWayOfThree();
        keptWhenFull();
        keptAgain();
        backAgain();
        oneDoesNotTouchTheOther();
        whatComesLaterIsNotInIt();
        keptBeforePanel();
        Due.end();
    }

    private static void imagesThereAre() {
        Due.sentence("IMAGE i keeps all that is so: 1; All is as it was kept: 1");
        for (int i = 0; i <= 1; i++) {
            TouchPanel x = new TouchPanel();
            Due.due("keep(" + i + ")", x.keep(i), 1);
            Due.due("goBack(" + i + ")", x.goBack(i), 1);
            Due.due("keep(" + i + ") again", x.keep(i), 1);
            Due.due("goBack(" + i + ") again", x.goBack(i), 1);
        }
    }

    /** 32 more or less is the same bit in Java's shifts, but no IMAGE. */
    private static void imagesThereAreNot() {
        Due.sentence("keep: UNKNOWN; goBack: UNKNOWN, NOT: it was not");
        for (int i : new int[] {-1, 2, 3, -2, 31, 32, 33, -31, -32, 64, LOW, LOW + 1, HIGH}) {
            TouchPanel x = new TouchPanel();
            Due.due("goBack(" + i + ") when none is kept: UNKNOWN comes first", x.goBack(i), UNKNOWN);
            Due.due("keep(" + i + ")", x.keep(i), UNKNOWN);
            Due.due("goBack(0): nothing was kept by it", x.goBack(0), NOT);
            Due.due("goBack(1): nothing was kept by it", x.goBack(1), NOT);
            x.keep(0);
            x.keep(1);
            x.set(0, 0, 7);
            Due.due("goBack(" + i + ") when both are kept", x.goBack(i), UNKNOWN);
            Due.due("RAW stays", x.cell(0, 0, 0), 7);
            Due.due("keep(" + i + ") when both are kept", x.keep(i), UNKNOWN);
            for (int image = 0; image <= 1; image++) {
                x.set(0, 0, 7);
                x.goBack(image);
                Due.due("IMAGE " + image + " stays", x.cell(0, 0, 0), 0);
            }
        }
    }

    private static void notKept() {
        Due.sentence("goBack: NOT: it was not");
        for (int i = 0; i <= 1; i++) {
            TouchPanel x = new TouchPanel();
            x.set(2, 2, 50);
            x.frame(1);
            long digest = x.digest();
            Due.due("goBack(" + i + ")", x.goBack(i), NOT);
            x.keep(1 - i);
            Due.due("goBack(" + i + ") when the other is kept", x.goBack(i), NOT);
            Due.due("nothing changed", x.digest(), digest);
            x.goBack(1 - i);
            Due.due("goBack(" + i + "): to go back keeps nothing", x.goBack(i), NOT);
            x.panel(2, 2);
            Due.due("goBack(" + i + ") anew", x.goBack(i), NOT);
        }
    }

    private static void keptOfNothing() {
        Due.sentence("IMAGE i keeps all that is so (a new object, no FRAME yet)");
        TouchPanel x = new TouchPanel();
        x.keep(0);
        x.panel(8, 8);
        x.drift(30, 7);
        x.lose(7);
        x.goBack(0);
        int[] told = {4, 4, 10, 9, 3, 1, 0, 0, 0, 0, 0, 0, 0, 0, 0, 0, 0};
        for (int what = 0; what < told.length; what++) {
            Due.due("told(" + what + ")", x.told(what), told[what]);
        }
        Due.due("digest()", x.digest(), new TouchPanel().digest());
        Due.due("named(0)", x.named(0), -1);
        Due.due("paired(-1)", x.paired(-1), 0);
        Due.due("a row beyond", x.cell(4, 0, 0), UNKNOWN);
        x.set(1, 1, 50);
        x.frame(1);
        Due.trackIs(x, 0, 0, 5, 1, 0, 0);
    }

    /** 8 by 8 with five CONTACTS, six TRACKS, a PALM, rows LOST and MISSING. */
    private static TouchPanel crowded() {
        TouchPanel x = Due.panelOf(8, 8);
        x.bound(0, 200);
        x.bound(1, 2);
        x.bound(2, 14);
        x.bound(3, 3);
        for (int i = 0; i < 6; i++) {
            x.set(i, i, 990 - i);
        }
        Due.put(x, 6, 300, 300, 300, 0, 100);
        x.frame(5);
        x.set(0, 0, 0);
        x.lose(7);
        x.frame(1);
        x.lose(0);
        x.lose(3);
        return x;
    }

    private static long[] sight(TouchPanel x) {
        long[] all = new long[19 + 6];
        for (int what = 0; what <= 16; what++) {
            all[what] = x.told(what);
        }
        all[17] = x.digest();
        for (int t = -1; t <= 5; t++) {
            all[19 + t] = x.paired(t);
        }
        return all;
    }

    private static void same(String when, TouchPanel x, long[] want) {
        long[] got = sight(x);
        for (int i = 0; i < want.length; i++) {
            Due.due(when + ": " + i + " of all that is so", got[i], want[i]);
        }
    }

    private static void keptOfAll() {
        Due.sentence("All is as it was kept (as much as can be)");
        for (int i = 0; i <= 1; i++) {
            TouchPanel x = crowded();
            long[] was = sight(x);
            Due.due("CONTACTS", was[8], 5);
            Due.due("PALMS", was[9], 1);
            Due.due("TRACKS", was[10], 6);
            Due.due("MISSING", was[16], 8);
            x.keep(i);
            same("kept", x, was);
            x.panel(2, 2);
            x.bound(0, 1);
            x.bound(1, 1);
            x.bound(2, 0);
            x.bound(3, 0);
            x.drift(30, 99);
            x.goBack(i);
            same("back", x, was);
            TouchPanel y = crowded();
            for (int round = 0; round < 3; round++) {
                Due.due("drift as if never away", x.drift(10, 5 + round), y.drift(10, 5 + round));
                same("it goes on as if never away", x, sight(y));
            }
        }
    }

    private static void keptRowsAndBounds() {
        Due.sentence("All is as it was kept (rows, columns, BOUNDS, LOST rows)");
        TouchPanel x = Due.panelOf(2, 8);
        x.bound(0, 1);
        x.bound(1, 1);
        x.bound(2, 0);
        x.bound(3, 0);
        x.lose(1);
        x.keep(1);
        x.panel(8, 2);
        x.bound(0, 200);
        x.bound(1, 64);
        x.bound(2, 14);
        x.bound(3, 3);
        x.lose(7);
        x.goBack(1);
        int[] told = {2, 8, 1, 1, 0, 0};
        for (int what = 0; what < told.length; what++) {
            Due.due("told(" + what + ")", x.told(what), told[what]);
        }
        Due.due("LOST", x.told(14), 2);
        Due.due("lose(1): it is", x.lose(1), NOT);
        Due.due("lose(7): there is none", x.lose(7), UNKNOWN);
        Due.due("the last column", x.cell(1, 7, 0), 0);
        x.frame(1);
        Due.due("MISSING", x.told(16), 8);
    }

    private static void keptCountsAndNames() {
        Due.sentence("All is as it was kept (FRAMES, TAPS, LIFTS, NAMES)");
        TouchPanel x = new TouchPanel();
        x.bound(3, 0);
        x.set(0, 0, 50);
        x.frame(1);
        x.wipe();
        x.frame(1);
        x.keep(0);
        for (int round = 0; round < 3; round++) {
            Due.due("TAPS", x.told(11), 1);
            Due.due("LIFTS", x.told(12), 0);
            Due.due("next NAME", x.told(13), 1);
            Due.due("FRAMES", x.told(6), 2);
            x.set(3, 3, 50);
            x.frame(4);
            Due.due("NAME", x.track(0, 0), 1);
            x.wipe();
            x.frame(1);
            Due.due("LIFTS then", x.told(12), 1);
            Due.due("next NAME then", x.told(13), 2);
            x.goBack(0);
        }
    }

    /** Nothing tells the WAY at which STATE became 3 but the STATE that follows. */
    private static void keptWayOfThree() {
        Due.sentence("IMAGE i keeps all that is so (the WAY at which STATE became 3 too)");
        for (int way = 2; way <= 7; way++) {
            for (int later = 2; later <= 7; later++) {
                TouchPanel x = Due.panelOf(2, 8);
                x.bound(3, 0);
                two(x, way);
                x.keep(0);
                x.panel(2, 8);
                two(x, 9 - way);
                x.goBack(0);
                Due.due("STATE", x.told(7), 3);
                Due.due("from WAY " + way + " to " + later, two(x, later), Math.abs(later - way) >= 2 ? 4 : 3);
            }
        }
    }

    private static int two(TouchPanel x, int column) {
        x.wipe();
        x.set(0, 0, 51);
        x.set(0, column, 50);
        return x.frame(1);
    }

    private static void keptWhenFull() {
        Due.sentence("All is as it was kept (FRAMES above 9000 too)");
        TouchPanel x = Due.panelOf(2, 2);
        x.keep(0);
        for (int i = 0; i < 301; i++) {
            x.frame(30);
        }
        x.keep(1);
        Due.due("frame(1)", x.frame(1), FULL);
        x.goBack(0);
        Due.due("frame(1) of the earlier", x.frame(1), 0);
        Due.due("FRAMES of the earlier", x.told(6), 1);
        x.goBack(1);
        Due.due("FRAMES of the later", x.told(6), 9030);
        Due.due("frame(1) of the later", x.frame(1), FULL);
        Due.due("drift(1, 1) of the later", x.drift(1, 1), FULL);
    }

    private static void keptAgain() {
        Due.sentence("IMAGE i keeps all that is so (what it kept before is gone)");
        TouchPanel x = new TouchPanel();
        for (int v = 1; v <= 5; v++) {
            x.set(0, 0, v);
            x.keep(0);
        }
        x.set(0, 0, 9);
        x.goBack(0);
        Due.due("RAW", x.cell(0, 0, 0), 5);
    }

    private static void backAgain() {
        Due.sentence("All is as it was kept (as often as is wanted)");
        TouchPanel x = crowded();
        long[] was = sight(x);
        x.keep(1);
        for (int round = 0; round < 5; round++) {
            x.drift(7, 11 + round);
            Due.due("goBack(1)", x.goBack(1), 1);
            same("back", x, was);
        }
        Due.due("goBack(1) at once again", x.goBack(1), 1);
        same("back", x, was);
    }

    private static void oneDoesNotTouchTheOther() {
        Due.sentence("IMAGES 0, 1 keep all that is so");
        TouchPanel x = new TouchPanel();
        x.set(0, 0, 1);
        x.keep(0);
        x.panel(8, 8);
        x.set(7, 7, 2);
        x.keep(1);
        x.goBack(0);
        Due.due("rows of 0", x.told(0), 4);
        Due.due("RAW of 0", x.cell(0, 0, 0), 1);
        x.goBack(1);
        Due.due("rows of 1", x.told(0), 8);
        Due.due("RAW of 1", x.cell(7, 7, 0), 2);
        x.goBack(0);
        x.keep(1);
        x.wipe();
        x.goBack(1);
        Due.due("0 is kept by 1 now", x.cell(0, 0, 0), 1);
        Due.due("its rows", x.told(0), 4);
    }

    private static void whatComesLaterIsNotInIt() {
        Due.sentence("All is as it was kept (what comes after keep, or after goBack, changes no IMAGE)");
        TouchPanel x = crowded();
        long[] was = sight(x);
        x.keep(0);
        x.wipe();
        x.frame(3);
        x.goBack(0);
        same("after keep", x, was);
        x.wipe();
        x.bound(3, 0);
        x.frame(3);
        x.set(5, 5, 77);
        x.lose(1);
        x.goBack(0);
        same("after goBack", x, was);
    }

    private static void keptBeforePanel() {
        Due.sentence("panel: Anew .. (IMAGES are none of what it names)");
        TouchPanel x = crowded();
        long[] was = sight(x);
        x.keep(0);
        x.panel(2, 2);
        x.keep(1);
        x.panel(8, 8);
        Due.due("goBack(0)", x.goBack(0), 1);
        same("back", x, was);
        Due.due("goBack(1)", x.goBack(1), 1);
        Due.due("rows", x.told(0), 2);
        Due.due("BOUNDS", x.told(2), 200);
    }
}
