import java.util.function.Supplier;
import java.util.function.ToLongFunction;

/** What all tests of the project share: answers that are due, and refusals that change nothing. */
final class Due {
    private static int wrong = 0;
    private static String sentence = "";

    private Due() {
    }

    /** The sentence of the document that the answers from here on are held to: each fault is told with it. */
    static void sentence(String words) {
        sentence = words;
    }

    static TouchPanel panelOf(int rows, int columns) {
        TouchPanel x = new TouchPanel();
        due("panel(" + rows + ", " + columns + ")", x.panel(rows, columns), rows * columns);
        return x;
    }

    /** RAW of one row. */
    static void put(TouchPanel x, int row, int... charges) {
        for (int column = 0; column < charges.length; column++) {
            x.set(row, column, charges[column]);
        }
    }

    static void cellIs(TouchPanel x, int row, int column, int... want) {
        for (int what = 0; what < want.length; what++) {
            due("cell(" + row + ", " + column + ", " + what + ")", x.cell(row, column, what), want[what]);
        }
    }

    static void contactIs(TouchPanel x, int k, int... want) {
        for (int what = 0; what < want.length; what++) {
            due("contact(" + k + ", " + what + ")", x.contact(k, what), want[what]);
        }
    }

    static void trackIs(TouchPanel x, int t, int... want) {
        for (int what = 0; what < want.length; what++) {
            due("track(" + t + ", " + what + ")", x.track(t, what), want[what]);
        }
    }

    static void due(String call, long got, long want) {
        if (got != want) {
            tell(call + " answered " + got + ", due is " + want);
        }
    }

    static void holds(String what, boolean so) {
        if (!so) {
            tell("it does not hold that " + what);
        }
    }

    /**
     * The call answers as is due, and nothing that can be asked is different after it. Each call has an object of its
     * own, as the document promises nothing of an object after its 512th call.
     */
    static void unchanged(Supplier<TouchPanel> made, String call, ToLongFunction<TouchPanel> asked, long want) {
        TouchPanel x = made.get();
        String before = shown(x);
        due(call, asked.applyAsLong(x), want);
        if (!shown(x).equals(before)) {
            tell(call + " changed what is so");
        }
    }

    /** All that can be asked in 25 calls, but for what an image keeps: CELLS, CONTACTS and TRACKS are in the digest. */
    static String shown(TouchPanel x) {
        StringBuilder all = new StringBuilder();
        for (int what = 0; what <= 16; what++) {
            all.append(x.told(what)).append(' ');
        }
        for (int t = -1; t <= 5; t++) {
            all.append(x.paired(t)).append(' ');
        }
        return all.append(x.digest()).toString();
    }

    /** Five by six, with a history: nothing that is told of it is 0. */
    static TouchPanel used() {
        TouchPanel x = new TouchPanel();
        x.panel(5, 6);
        x.bound(1, 4);
        x.set(1, 1, 80);
        x.set(3, 4, 60);
        x.frame(2);
        x.wipe();
        x.frame(2);
        x.set(3, 1, 70);
        x.frame(4);
        x.wipe();
        x.frame(2);
        x.press(2, 2, 70);
        x.set(4, 5, 90);
        x.set(4, 3, 60);
        x.set(1, 5, 4);
        x.frame(2);
        x.lose(0);
        x.frame(1);
        x.lose(1);
        for (int what = 0; what <= 16; what++) {
            holds("the panel in use tells of " + what, x.told(what) > 0);
        }
        return x;
    }

    static void tell(String fault) {
        wrong++;
        System.out.println(sentence.isEmpty() ? fault : "\"" + sentence + "\": " + fault);
    }

    static void end() {
        System.out.println(wrong == 0 ? "all answers are as due" : wrong + " faults");
        if (wrong != 0) {
            System.exit(1);
        }
    }
}
