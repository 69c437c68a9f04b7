/** Edges of "2 A FRAME", step 5, sentence by sentence: WAYS, pairs, costs, MISSED, TAPS, LIFTS, NAMES. */
public final class EdgesTracksTest {
    /** Twelve CELLS of 8 by 8 of which no two are NEXT; six at the top, six at the bottom, five rows or more between. */
    private static final int[] TOP = {0, 2, 4, 6, 9, 11}, BOTTOM = {48, 50, 52, 54, 57, 59};

    public static void main(String[] args) {
        wayAtTheFarBound();
        wayIsRowsAndColumnsTogether();
        tracksNotPairedCost();
        contactsNotPairedCost();
        everyTwoTracksAndTwoContacts();
        sixTracksSixContacts();
        pairedIsNewAndOld();
        missedUpToGone();
        missedAnew();
        tapOrLift();
        ageStandsWhileMissed();
        endedByALesserGone();
        beginIfLessThanSix();
        theStrongestBeginFirst();
        endsMakeRoom();
        namesGoOn();
        inTheOrderInWhichTheyBegan();
        noTracks();
        Due.end();
    }

    private static TouchPanel board(int far, int gone) {
        TouchPanel x = Due.panelOf(8, 8);
        x.bound(2, far);
        x.bound(3, gone);
        return x;
    }

    private static void charge(TouchPanel x, int at, int raw) {
        x.set(at / 8, at % 8, raw);
    }

    /** The first n of these CELLS alone, the first the STRONGEST. */
    private static void only(TouchPanel x, int[] cells, int n) {
        x.wipe();
        for (int i = 0; i < n; i++) {
            charge(x, cells[i], 90 - i);
        }
    }

    private static void wayAtTheFarBound() {
        Due.sentence("the WAY D at most");
        for (int far = 0; far <= 14; far++) {
            for (int way = Math.max(0, far - 1); way <= Math.min(14, far + 1); way++) {
                TouchPanel x = board(far, 1);
                charge(x, 0, 50);
                x.frame(1);
                x.wipe();
                int to = Math.min(7, way) * 8 + way - Math.min(7, way);
                charge(x, to, 50);
                x.frame(1);
                if (way <= far) {
                    Due.due("TRACKS, D " + far + ", WAY " + way, x.told(10), 1);
                    Due.trackIs(x, 0, 0, to, 2, 0, way);
                    Due.due("NAMES", x.told(13), 1);
                } else {
                    Due.due("TRACKS, D " + far + ", WAY " + way, x.told(10), 2);
                    Due.trackIs(x, 0, 0, 0, 1, 1, 0);
                    Due.trackIs(x, 1, 1, to, 1, 0, 0);
                    Due.due("what it comes to then", x.paired(-1), far + 1);
                }
            }
        }
    }

    private static void wayIsRowsAndColumnsTogether() {
        Due.sentence("WAY of a TRACK and a CONTACT: rows and columns between their PEAKS, together");
        for (int[] size : new int[][] {{8, 8}, {2, 8}, {8, 2}, {3, 5}}) {
            int cells = size[0] * size[1];
            for (int a = 0; a < cells; a++) {
                for (int b = 0; b < cells; b++) {
                    TouchPanel x = Due.panelOf(size[0], size[1]);
                    x.bound(2, 14);
                    x.set(a / size[1], a % size[1], 50);
                    x.frame(1);
                    x.wipe();
                    x.set(b / size[1], b % size[1], 50);
                    x.frame(1);
                    int way = Math.abs(a / size[1] - b / size[1]) + Math.abs(a % size[1] - b % size[1]);
                    Due.trackIs(x, 0, 0, b, 2, 0, way);
                }
            }
        }
    }

    private static void tracksNotPairedCost() {
        Due.sentence("what is not paired costs D and 1, TRACKS and CONTACTS alike (TRACKS alone)");
        for (int far : new int[] {0, 1, 3, 14}) {
            for (int n = 0; n <= 6; n++) {
                TouchPanel x = board(far, 3);
                only(x, TOP, n);
                x.frame(1);
                Due.due("all at their place", x.paired(-1), 0);
                x.wipe();
                x.frame(1);
                Due.due(n + " TRACKS, D " + far, x.paired(-1), n * (far + 1));
                for (int t = 0; t < n; t++) {
                    Due.due("none for " + t, x.paired(t), -1);
                }
            }
        }
    }

    /** Six TRACKS leave no room for CONTACTS that are too far from all of them. */
    private static void contactsNotPairedCost() {
        Due.sentence("what is not paired costs D and 1, TRACKS and CONTACTS alike");
        for (int far = 0; far <= 4; far++) {
            for (int n = 0; n <= 6; n++) {
                TouchPanel x = board(far, 3);
                only(x, TOP, 6);
                x.frame(1);
                only(x, BOTTOM, n);
                x.frame(1);
                Due.due("CONTACTS", x.told(8), n);
                Due.due("TRACKS", x.told(10), 6);
                Due.due("six TRACKS and " + n + " CONTACTS, D " + far, x.paired(-1), (6 + n) * (far + 1));
            }
        }
    }

    /** In one row, as far as can be; the seven ways to pair them, in the document's order. */
    private static final int[][] WAYS_TO_PAIR = {{0, 1}, {0, -1}, {1, 0}, {1, -1}, {-1, 0}, {-1, 1}, {-1, -1}};

    private static void everyTwoTracksAndTwoContacts() {
        Due.sentence("so that WAYS and costs together are least; of like ones the first (TRACK by TRACK the lesser CONTACT, none last)");
        for (int a = 0; a < 64; a++) {
            for (int c = 0; c < 64; c++) {
                if (Math.abs(a / 8 - a % 8) >= 2 && Math.abs(c / 8 - c % 8) >= 2) {
                    for (int far = 0; far <= 8; far++) {
                        twoAndTwo(new int[] {a / 8, a % 8}, new int[] {c / 8, c % 8}, far);
                    }
                }
            }
        }
    }

    private static void twoAndTwo(int[] tracks, int[] contacts, int far) {
        TouchPanel x = Due.panelOf(2, 8);
        x.bound(2, far);
        x.bound(3, 3);
        x.set(0, tracks[0], 51);
        x.set(0, tracks[1], 50);
        x.frame(1);
        x.wipe();
        x.set(0, contacts[0], 51);
        x.set(0, contacts[1], 50);
        int[] best = firstOfTheLeast(tracks, contacts, far);
        String where = tracks[0] + ", " + tracks[1] + " to " + contacts[0] + ", " + contacts[1] + ", D " + far;
        x.frame(1);
        int names = 2;
        for (int t = 0; t < 2; t++) {
            int at = best[t] < 0 ? tracks[t] : contacts[best[t]];
            Due.due("PEAK of TRACK " + t + ", " + where, x.track(t, 1), at);
            Due.due("MISSED of TRACK " + t + ", " + where, x.track(t, 3), best[t] < 0 ? 1 : 0);
            Due.due("MOVED of TRACK " + t + ", " + where, x.track(t, 4), Math.abs(at - tracks[t]));
        }
        for (int k = 0; k < 2; k++) {
            if (best[0] != k && best[1] != k) {
                Due.due("PEAK of the one that begins, " + where, x.track(names, 1), contacts[k]);
                names++;
            }
        }
        Due.due("NAMES, " + where, x.told(13), names);
    }

    private static int[] firstOfTheLeast(int[] tracks, int[] contacts, int far) {
        int[] best = null;
        int least = Integer.MAX_VALUE;
        for (int[] pair : WAYS_TO_PAIR) {
            int cost = 4 * (far + 1);
            boolean near = true;
            for (int t = 0; t < 2; t++) {
                if (pair[t] >= 0) {
                    int way = Math.abs(tracks[t] - contacts[pair[t]]);
                    near &= way <= far;
                    cost += way - 2 * (far + 1);
                }
            }
            if (near && cost < least) {
                best = pair;
                least = cost;
            }
        }
        return best;
    }

    private static void sixTracksSixContacts() {
        Due.sentence("They are paired: each with one at most (all six)");
        TouchPanel x = board(14, 0);
        only(x, TOP, 6);
        x.frame(1);
        only(x, BOTTOM, 6);
        x.frame(1);
        Due.due("TRACKS", x.told(10), 6);
        Due.due("NAMES", x.told(13), 6);
        int moved = 0;
        int places = 0;
        for (int t = 0; t < 6; t++) {
            Due.due("AGE of " + t, x.track(t, 2), 2);
            moved += x.track(t, 4);
            places |= 1 << x.contact(x.paired(t), 0) - 48;
            Due.due("where it is now", x.contact(x.paired(t), 0), x.track(t, 1));
        }
        Due.due("all go the least way together", moved, 6 * 6);
        Due.due("each to one of its own", places, 1 | 4 | 16 | 64 | 512 | 2048);
        Due.due("all at their place", x.paired(-1), 0);
    }

    private static void pairedIsNewAndOld() {
        Due.sentence("A paired TRACK is at the CONTACT's PEAK, AGE 1 more, MISSED 0, MOVED more by the WAY");
        TouchPanel x = board(3, 3);
        charge(x, 0, 50);
        x.frame(1);
        Due.trackIs(x, 0, 0, 0, 1, 0, 0);
        x.frame(1);
        Due.trackIs(x, 0, 0, 0, 2, 0, 0);
        x.wipe();
        charge(x, 3, 50);
        x.frame(1);
        Due.trackIs(x, 0, 0, 3, 3, 0, 3);
        x.wipe();
        x.frame(2);
        Due.trackIs(x, 0, 0, 3, 3, 2, 3);
        charge(x, 2, 50);
        x.frame(1);
        Due.trackIs(x, 0, 0, 2, 4, 0, 4);
    }

    private static void missedUpToGone() {
        Due.sentence("Another one has MISSED 1 more; is that more than L, it ends");
        for (int gone = 0; gone <= 3; gone++) {
            TouchPanel x = board(3, gone);
            charge(x, 27, 50);
            x.frame(1);
            x.wipe();
            for (int missed = 1; missed <= gone; missed++) {
                x.frame(1);
                Due.trackIs(x, 0, 0, 27, 1, missed, 0);
                Due.due("named(0), L " + gone, x.named(0), 0);
                Due.due("TAPS, L " + gone, x.told(11), 0);
            }
            x.frame(1);
            Due.due("TRACKS, L " + gone, x.told(10), 0);
            Due.due("named(0), L " + gone, x.named(0), -1);
            Due.due("TAPS, L " + gone, x.told(11), 1);
            Due.due("LIFTS, L " + gone, x.told(12), 0);
        }
    }

    private static void missedAnew() {
        Due.sentence("MISSED 0 (it counts from there again)");
        for (int gone = 1; gone <= 3; gone++) {
            TouchPanel x = board(3, gone);
            for (int round = 0; round < 4; round++) {
                charge(x, 27, 50);
                x.frame(1);
                Due.trackIs(x, 0, 0, 27, round + 1, 0, 0);
                x.wipe();
                x.frame(gone);
                Due.trackIs(x, 0, 0, 27, round + 1, gone, 0);
            }
            x.frame(1);
            Due.due("LIFTS, as AGE is 4", x.told(12), 1);
            Due.due("TAPS", x.told(11), 0);
        }
    }

    /** Each AGE up to 6, each MOVED up to 4, moved by one step at the end. */
    private static void tapOrLift() {
        Due.sentence("a TAP, if AGE is 3 at most and MOVED 1 at most, else a LIFT (both are counted)");
        for (int age = 1; age <= 6; age++) {
            for (int moved = 0; moved <= (age == 1 ? 0 : 4); moved++) {
                TouchPanel x = board(4, 0);
                charge(x, 0, 50);
                x.frame(age == 1 ? 1 : age - 1);
                if (age > 1) {
                    x.wipe();
                    charge(x, moved, 50);
                    x.frame(1);
                }
                Due.trackIs(x, 0, 0, moved, age, 0, moved);
                x.wipe();
                x.frame(1);
                boolean tap = age <= 3 && moved <= 1;
                Due.due("TAPS, AGE " + age + ", MOVED " + moved, x.told(11), tap ? 1 : 0);
                Due.due("LIFTS, AGE " + age + ", MOVED " + moved, x.told(12), tap ? 0 : 1);
            }
        }
        TouchPanel x = board(0, 0);
        for (int round = 1; round <= 5; round++) {
            only(x, TOP, 6);
            x.frame(round % 2 == 0 ? 4 : 1);
            x.wipe();
            x.frame(1);
            Due.due("TAPS, six at once", x.told(11), 6 * ((round + 1) / 2));
            Due.due("LIFTS, six at once", x.told(12), 6 * (round / 2));
        }
    }

    private static void ageStandsWhileMissed() {
        Due.sentence("AGE is 3 at most (FRAMES in which it was MISSED are none of them)");
        TouchPanel x = board(3, 3);
        for (int i = 0; i < 3; i++) {
            charge(x, 9, 50);
            x.frame(1);
            x.wipe();
            x.frame(3);
        }
        Due.trackIs(x, 0, 0, 9, 3, 3, 0);
        x.frame(1);
        Due.due("TAPS", x.told(11), 1);
        Due.due("FRAMES", x.told(6), 13);
    }

    private static void endedByALesserGone() {
        Due.sentence("is that more than L, it ends (L as it is then)");
        TouchPanel x = board(3, 3);
        charge(x, 9, 50);
        x.frame(1);
        x.wipe();
        x.frame(3);
        Due.due("MISSED", x.track(0, 3), 3);
        x.bound(3, 0);
        Due.due("a BOUND alone ends nothing", x.told(10), 1);
        charge(x, 9, 50);
        x.frame(1);
        Due.trackIs(x, 0, 0, 9, 2, 0, 0);
        x.wipe();
        x.frame(1);
        Due.due("TRACKS", x.told(10), 0);
    }

    private static void beginIfLessThanSix() {
        Due.sentence("Then each CONTACT without a TRACK, rising, begins one, if there are less than 6");
        for (int old = 0; old <= 6; old++) {
            for (int n = 0; n <= 6; n++) {
                TouchPanel x = board(3, 3);
                only(x, TOP, old);
                x.frame(1);
                only(x, BOTTOM, n);
                x.frame(1);
                int all = Math.min(6, old + n);
                Due.due("TRACKS of " + old + " and " + n, x.told(10), all);
                Due.due("NAMES of " + old + " and " + n, x.told(13), all);
                for (int t = 0; t < all; t++) {
                    Due.trackIs(x, t, t, t < old ? TOP[t] : BOTTOM[t - old], 1, t < old ? 1 : 0, 0);
                }
                Due.due("no more", x.track(all, 0), -1000000001);
            }
        }
    }

    /** Rising: as CONTACTS are numbered, not as CELLS are. */
    private static void theStrongestBeginFirst() {
        Due.sentence("each CONTACT without a TRACK, rising");
        TouchPanel x = board(3, 3);
        only(x, TOP, 4);
        x.frame(1);
        x.wipe();
        charge(x, 48, 50);
        charge(x, 50, 52);
        charge(x, 52, 51);
        x.frame(1);
        Due.trackIs(x, 4, 4, 50, 1, 0, 0);
        Due.trackIs(x, 5, 5, 52, 1, 0, 0);
        Due.due("six", x.told(10), 6);
        Due.due("no NAME for the third", x.told(13), 6);
    }

    private static void endsMakeRoom() {
        Due.sentence("it ends .. Then each CONTACT without a TRACK begins one");
        TouchPanel x = board(3, 0);
        only(x, TOP, 6);
        x.frame(1);
        only(x, BOTTOM, 6);
        x.frame(1);
        Due.due("TRACKS", x.told(10), 6);
        Due.due("TAPS", x.told(11), 6);
        for (int t = 0; t < 6; t++) {
            Due.trackIs(x, t, 6 + t, BOTTOM[t], 1, 0, 0);
        }
    }

    private static void namesGoOn() {
        Due.sentence("NAME the next number (0 at first; they go on)");
        TouchPanel x = board(0, 0);
        int name = 0;
        for (int round = 0; round < 30; round++) {
            int n = round % 7;
            only(x, round % 2 == 0 ? TOP : BOTTOM, n);
            x.frame(1);
            for (int t = 0; t < n; t++) {
                Due.due("NAME", x.track(t, 0), name + t);
                Due.due("named", x.named(name + t), t);
            }
            name += n;
            Due.due("next NAME", x.told(13), name);
            Due.due("the next NAME is none yet", x.named(name), -1);
        }
    }

    private static void inTheOrderInWhichTheyBegan() {
        Due.sentence("TRACKS (6 at most; in the order in which they began)");
        for (int gone = 0; gone < 6; gone++) {
            TouchPanel x = board(0, 0);
            only(x, TOP, 6);
            x.frame(1);
            charge(x, TOP[gone], 0);
            charge(x, 63, 900);
            x.frame(1);
            Due.due("TRACKS", x.told(10), 6);
            for (int t = 0; t < 5; t++) {
                int was = t < gone ? t : t + 1;
                Due.trackIs(x, t, was, TOP[was], 2, 0, 0);
            }
            Due.trackIs(x, 5, 6, 63, 1, 0, 0);
            Due.due("the one that ended", x.named(gone), -1);
        }
        allOfATrackMovesUp();
    }

    /** NAME, PEAK, AGE, MISSED and MOVED of those behind one that ends are all different, and all stay. */
    private static void allOfATrackMovesUp() {
        TouchPanel x = board(3, 3);
        charge(x, 0, 90);
        x.frame(1);
        x.wipe();
        charge(x, 16, 80);
        x.bound(2, 0);
        x.frame(1);
        x.bound(2, 3);
        x.wipe();
        charge(x, 18, 80);
        charge(x, 56, 70);
        x.bound(2, 2);
        x.frame(1);
        x.wipe();
        charge(x, 57, 70);
        x.frame(1);
        Due.trackIs(x, 0, 0, 0, 1, 3, 0);
        Due.trackIs(x, 1, 1, 18, 2, 1, 2);
        Due.trackIs(x, 2, 2, 57, 2, 0, 1);
        x.wipe();
        x.frame(1);
        Due.due("TRACKS when the first has ended", x.told(10), 2);
        Due.trackIs(x, 0, 1, 18, 2, 2, 2);
        Due.trackIs(x, 1, 2, 57, 2, 1, 1);
    }

    private static void noTracks() {
        Due.sentence("TRACKS (none)");
        TouchPanel x = new TouchPanel();
        Due.due("STATE", x.frame(30), 0);
        Due.due("TRACKS", x.told(10), 0);
        Due.due("TAPS", x.told(11), 0);
        Due.due("LIFTS", x.told(12), 0);
        Due.due("next NAME", x.told(13), 0);
        Due.due("paired(-1)", x.paired(-1), 0);
    }
}
