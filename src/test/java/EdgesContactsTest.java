/** Edges of "2 A FRAME", step 4, sentence by sentence: the STRONGER, PEAKS, BLOBS, PALMS, CONTACTS. */
public final class EdgesContactsTest {
    public static void main(String[] args) {
        strongerBySignal();
        everyTwoCells();
        everyRoundOfNeighbours();
        neighboursNotTouched();
        andSoOn();
        areaAtThePalmBound();
        noContactsNoPalms();
        sixContactsAtMost();
        likeOnesAtTheSixth();
        palmsTakeNoRoom();
        palmsHaveNoLimit();
        theWholePanel();
        Due.end();
    }

    /** GROUND 3 below the first CELL: with like RAW it has less SIGNAL; with a RAW more it has more. */
    private static void strongerBySignal() {
        Due.sentence("Of two TOUCHED CELLS the one with more SIGNAL is the STRONGER");
        int[][] cases = {{20, 20, 1}, {21, 20, 0}, {20, 19, 0}, {999, 999, 1}};
        for (int[] c : cases) {
            TouchPanel x = Due.panelOf(2, 2);
            x.set(0, 0, 3);
            x.frame(1);
            Due.due("GROUND", x.cell(0, 0, 1), 3);
            Due.put(x, 0, c[0], c[1]);
            x.frame(1);
            Due.due("PEAK of the first", x.cell(0, 0, 4), c[2]);
            Due.due("PEAK of the second", x.cell(0, 1, 4), c[2]);
        }
    }

    /** On each size each two CELLS, one of them stronger, or both alike: one BLOB if they are NEXT, else two. */
    private static void everyTwoCells() {
        Due.sentence("leads to the STRONGEST of itself and those NEXT to it; of like ones the lesser number");
        for (int rows = 2; rows <= 8; rows++) {
            for (int columns = 2; columns <= 8; columns++) {
                for (int a = 0; a < rows * columns; a++) {
                    for (int b = 0; b < rows * columns; b++) {
                        if (a != b) {
                            twoCells(rows, columns, a, b, 50, 49);
                            twoCells(rows, columns, a, b, 50, 50);
                        }
                    }
                }
            }
        }
    }

    private static void twoCells(int rows, int columns, int a, int b, int rawA, int rawB) {
        TouchPanel x = Due.panelOf(rows, columns);
        x.set(a / columns, a % columns, rawA);
        x.set(b / columns, b % columns, rawB);
        x.frame(1);
        boolean next = Math.abs(a / columns - b / columns) + Math.abs(a % columns - b % columns) == 1;
        int first = rawA > rawB ? a : Math.min(a, b);
        int second = first == a ? b : a;
        String where = first + " and " + second + " of " + rows + " by " + columns;
        Due.due("CONTACTS, " + where, x.told(8), next ? 1 : 2);
        Due.due("the first, " + where, x.contact(0, 0), first);
        Due.due("the second, " + where, x.contact(1, 0), next ? -1 : second);
        Due.due("PEAK of the second, " + where, x.cell(second / columns, second % columns, 4), next ? first : second);
        Due.due("AREA, " + where, x.contact(0, 1), next ? 2 : 1);
    }

    /** The CELL in the middle of 3 by 3, and all it can have around it: not TOUCHED, weaker, alike, stronger by 1 or 2. */
    private static void everyRoundOfNeighbours() {
        Due.sentence("A TOUCHED CELL leads to the STRONGEST of itself and those NEXT to it that are TOUCHED");
        int[] charges = {9, 19, 20, 21, 22};
        int[] around = {1, 3, 5, 7};
        for (int choice = 0; choice < 625; choice++) {
            TouchPanel x = Due.panelOf(3, 3);
            x.set(1, 1, 20);
            int best = 4;
            int bestRaw = 20;
            int left = choice;
            for (int at : around) {
                int raw = charges[left % 5];
                left /= 5;
                x.set(at / 3, at % 3, raw);
                if (raw > bestRaw || raw == bestRaw && at < best) {
                    best = at;
                    bestRaw = raw;
                }
            }
            x.frame(1);
            Due.due("PEAK of the middle, choice " + choice, x.cell(1, 1, 4), best);
        }
    }

    private static void neighboursNotTouched() {
        Due.sentence("those NEXT to it that are TOUCHED (one that is MISSING is not)");
        TouchPanel x = Due.panelOf(3, 3);
        Due.put(x, 0, 0, 90, 0);
        Due.put(x, 1, 0, 50, 0);
        x.lose(0);
        x.frame(1);
        Due.due("PEAK below the MISSING row", x.cell(1, 1, 4), 4);
        Due.due("CONTACTS", x.told(8), 1);
        Due.due("a CELL that is not TOUCHED has none", x.cell(2, 1, 4), -1);
    }

    /** Each CELL leads one step to the right or down a winding way; none is left on the way. */
    private static void andSoOn() {
        Due.sentence("and so on, to one that leads to itself: its PEAK");
        TouchPanel x = Due.panelOf(2, 8);
        Due.put(x, 0, 10, 11, 12, 13, 14, 15, 16, 17);
        x.frame(1);
        for (int column = 0; column < 8; column++) {
            Due.due("PEAK of " + column, x.cell(0, column, 4), 7);
        }
        x.wipe();
        Due.put(x, 0, 17, 16, 15, 14, 13, 12, 11, 10);
        x.frame(1);
        for (int column = 0; column < 8; column++) {
            Due.due("PEAK of " + column + ", the other way", x.cell(0, column, 4), 0);
        }
        Due.due("AREA", x.contact(0, 1), 8);
        x.wipe();
        Due.put(x, 0, 30, 20, 10, 20, 31);
        x.frame(1);
        Due.due("in a valley between like ones the lesser number", x.cell(0, 2, 4), 0);
        Due.due("left of it", x.cell(0, 1, 4), 0);
        Due.due("right of it", x.cell(0, 3, 4), 4);
    }

    /** n CELLS that hang together and are all alike: all lead to the first. */
    private static TouchPanel blobOf(int n, int palm) {
        TouchPanel x = Due.panelOf(8, 8);
        x.bound(1, palm);
        for (int at = 0; at < n; at++) {
            x.set(at / 8, at % 8, 50);
        }
        x.frame(1);
        return x;
    }

    private static void areaAtThePalmBound() {
        Due.sentence("AREA: how many. More than P: a PALM (refused)");
        for (int palm = 1; palm <= 64; palm++) {
            TouchPanel just = blobOf(palm, palm);
            Due.due("PALMS with AREA P " + palm, just.told(9), 0);
            Due.due("CONTACTS with AREA P " + palm, just.told(8), 1);
            Due.due("AREA", just.contact(0, 1), palm);
            Due.due("TRACKS", just.told(10), 1);
            if (palm < 64) {
                TouchPanel more = blobOf(palm + 1, palm);
                Due.due("PALMS with AREA P + 1, P " + palm, more.told(9), 1);
                Due.due("CONTACTS with AREA P + 1, P " + palm, more.told(8), 0);
                Due.due("contact(0, 0)", more.contact(0, 0), -1);
                Due.due("TRACKS", more.told(10), 0);
                Due.due("STATE", more.told(7), 0);
                Due.due("TOUCHED all the same", more.told(15), palm + 1);
                Due.due("PEAK all the same", more.cell(palm / 8, palm % 8, 4), 0);
            }
        }
    }

    private static void noContactsNoPalms() {
        Due.sentence("CONTACTS: the others (none)");
        TouchPanel x = new TouchPanel();
        x.set(1, 1, 9);
        x.frame(1);
        Due.due("CONTACTS", x.told(8), 0);
        Due.due("PALMS", x.told(9), 0);
        Due.due("TOUCHED", x.told(15), 0);
        Due.contactIs(x, 0, -1, -1, -1, -1, -1);
        x.set(1, 1, 50);
        x.frame(1);
        Due.due("CONTACTS then", x.told(8), 1);
        x.wipe();
        x.frame(1);
        Due.due("CONTACTS of the latest FRAME alone", x.told(8), 0);
    }

    /** Up to 32 of them, each a CELL alone, the weaker the lesser their number: the last six of them are the CONTACTS. */
    private static void sixContactsAtMost() {
        Due.sentence("from the STRONGEST PEAK on, 6 at most");
        for (int n = 0; n <= 32; n++) {
            TouchPanel x = Due.panelOf(8, 8);
            for (int i = 0; i < n; i++) {
                x.set(i / 4, i % 4 * 2 + i / 4 % 2, 20 + i);
            }
            x.frame(1);
            int count = Math.min(n, 6);
            Due.due("CONTACTS of " + n, x.told(8), count);
            Due.due("TRACKS of " + n, x.told(10), count);
            Due.due("TOUCHED of " + n, x.told(15), n);
            Due.due("PALMS of " + n, x.told(9), 0);
            for (int k = 0; k < count; k++) {
                int i = n - 1 - k;
                Due.contactIs(x, k, i / 4 * 8 + i % 4 * 2 + i / 4 % 2, 1, 16 * (20 + i));
            }
            Due.contactIs(x, count, -1, -1, -1, -1, -1);
        }
    }

    private static void likeOnesAtTheSixth() {
        Due.sentence("from the STRONGEST PEAK on, 6 at most; of like ones the lesser number");
        TouchPanel like = Due.panelOf(8, 8);
        for (int i = 0; i < 8; i++) {
            like.set(7 - i, i, 50);
        }
        like.frame(1);
        for (int k = 0; k < 6; k++) {
            Due.due("all alike: PEAK of " + k, like.contact(k, 0), k * 8 + 7 - k);
        }
        Due.due("no seventh", like.contact(6, 0), -1);
        TouchPanel last = Due.panelOf(8, 8);
        for (int i = 0; i < 8; i++) {
            last.set(i, i, i == 7 ? 51 : 50);
        }
        last.frame(1);
        int[] peaks = {63, 0, 9, 18, 27, 36};
        for (int k = 0; k < 6; k++) {
            Due.due("the last is the STRONGEST: PEAK of " + k, last.contact(k, 0), peaks[k]);
        }
    }

    private static void palmsTakeNoRoom() {
        Due.sentence("CONTACTS: the others (a PALM is none of the 6)");
        TouchPanel x = Due.panelOf(8, 8);
        x.bound(1, 2);
        Due.put(x, 0, 900, 901, 900, 0, 0, 902, 901, 900);
        for (int i = 0; i < 6; i++) {
            x.set(2 + i, i, 50 - i);
        }
        x.frame(1);
        Due.due("PALMS", x.told(9), 2);
        Due.due("CONTACTS", x.told(8), 6);
        for (int k = 0; k < 6; k++) {
            Due.contactIs(x, k, (2 + k) * 8 + k, 1, 16 * (50 - k));
        }
        Due.due("PEAK of a PALM", x.cell(0, 7, 4), 5);
    }

    private static void palmsHaveNoLimit() {
        Due.sentence("More than P: a PALM (as many as there are)");
        TouchPanel x = Due.panelOf(8, 8);
        x.bound(1, 1);
        for (int row = 0; row < 8; row += 2) {
            Due.put(x, row, 50, 50, 0, 50, 51, 0, 52, 50);
        }
        x.frame(1);
        Due.due("PALMS", x.told(9), 12);
        Due.due("CONTACTS", x.told(8), 0);
        x.bound(1, 2);
        x.frame(1);
        Due.due("PALMS with a greater P", x.told(9), 0);
        Due.due("CONTACTS with a greater P", x.told(8), 6);
    }

    private static void theWholePanel() {
        Due.sentence("A BLOB: all CELLS with one PEAK");
        for (int at = 0; at < 64; at++) {
            TouchPanel x = Due.panelOf(8, 8);
            x.bound(1, 64);
            for (int other = 0; other < 64; other++) {
                int way = Math.abs(at / 8 - other / 8) + Math.abs(at % 8 - other % 8);
                x.set(other / 8, other % 8, 999 - way);
            }
            x.frame(1);
            Due.due("CONTACTS", x.told(8), 1);
            Due.due("PEAK", x.contact(0, 0), at);
            Due.due("AREA", x.contact(0, 1), 64);
            Due.due("TOUCHED", x.told(15), 64);
        }
    }
}
