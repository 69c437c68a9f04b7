import java.util.Arrays;

/**
 * A surface that is touched: a grid of cells with charges, frame by frame, and what a hand does on it.
 * Words in capitals are those of the document.
 */
public final class TouchPanel {
    public static final int NONE = -1, UNKNOWN = -1000000001, OUTSIDE = -1000000002, NOT = -1000000003, FULL = -1000000004;

    private static final int LEAST_SIDE = 2;
    private static final int MOST_SIDE = 8;
    private static final int FIRST_SIDE = 4;
    private static final int MOST_CELLS = MOST_SIDE * MOST_SIDE;
    private static final int MOST_RAW = 999;
    private static final int SIXTEENTHS = 16;
    private static final int NO_SIGNAL = -99999;

    private static final int TOUCH = 0;
    private static final int PALM = 1;
    private static final int FAR = 2;
    private static final int GONE = 3;
    private static final int[] FIRST_BOUNDS = {10, 9, 3, 1};
    private static final int[] LEAST_BOUNDS = {1, 1, 0, 0};
    private static final int[] MOST_BOUNDS = {200, 64, 14, 3};

    /** CONTACTS of a FRAME and TRACKS have the same limit. */
    private static final int MOST_FINGERS = 6;
    private static final int FINGER_SETS = 1 << MOST_FINGERS;
    private static final int TAP_AGE = 3;
    private static final int TAP_MOVED = 1;

    private static final int LAST_STATE = 5;
    private static final int DRAG_MOVED = 2;
    private static final int PINCH_DIFFERENCE = 2;
    private static final int MOST_RULE_NUMBER = 99;

    private static final int MOST_FRAMES_A_CALL = 30;
    private static final int FULL_ABOVE = 9000;
    private static final int MOST_SEED = 999999;
    private static final int MOST_GHOSTS = 16;
    private static final int CENTRE_UNIT = 256;
    private static final int IMAGES = 2;

    private static final int LAST_TOLD = 16;
    private static final int LAST_OF_CELL = 4;
    private static final int LAST_OF_CONTACT = 4;
    private static final int LAST_OF_TRACK = 4;

    private final Scene now = new Scene();
    private final Scene imageZero = new Scene();
    private final Scene imageOne = new Scene();
    private final Pairing pairing = new Pairing();
    private final Lots lots = new Lots();
    private int keptImages = 0;

    public TouchPanel() {
    }

    // ---- the panel

    public int panel(int rows, int columns) {
        if (!within(rows, LEAST_SIDE, MOST_SIDE) || !within(columns, LEAST_SIDE, MOST_SIDE)) {
            return OUTSIDE;
        }
        now.beginAnew(rows, columns);
        return now.grid.cells();
    }

    public int bound(int what, int v) {
        if (!within(what, TOUCH, GONE) || !within(v, LEAST_BOUNDS[what], MOST_BOUNDS[what])) {
            return OUTSIDE;
        }
        int was = now.bounds[what];
        now.bounds[what] = v;
        return was;
    }

    public int set(int row, int column, int v) {
        if (!now.grid.has(row, column)) {
            return UNKNOWN;
        }
        if (!within(v, 0, MOST_RAW)) {
            return OUTSIDE;
        }
        int at = now.grid.at(row, column);
        int was = now.grid.raw[at];
        now.grid.raw[at] = v;
        return was;
    }

    public int press(int row, int column, int v) {
        if (!now.grid.has(row, column)) {
            return UNKNOWN;
        }
        if (!within(v, 0, MOST_RAW)) {
            return OUTSIDE;
        }
        int half = v / 2;
        now.grid.charge(row, column, v);
        now.grid.charge(row - 1, column, half);
        now.grid.charge(row + 1, column, half);
        now.grid.charge(row, column - 1, half);
        now.grid.charge(row, column + 1, half);
        return now.grid.raw[now.grid.at(row, column)];
    }

    public int wipe() {
        return now.grid.clearRaw();
    }

    public int lose(int row) {
        if (!now.grid.hasRow(row)) {
            return UNKNOWN;
        }
        if (now.grid.isLost(row)) {
            return NOT;
        }
        now.grid.markLost(row);
        return now.grid.lostRows;
    }

    public int frame(int n) {
        if (!within(n, 1, MOST_FRAMES_A_CALL)) {
            return OUTSIDE;
        }
        if (now.frames > FULL_ABOVE) {
            return FULL;
        }
        for (int i = 0; i < n; i++) {
            now.takeFrame(pairing);
        }
        return now.state;
    }

    public int drift(int n, int seed) {
        if (!within(n, 1, MOST_FRAMES_A_CALL) || !within(seed, 1, MOST_SEED)) {
            return OUTSIDE;
        }
        if (now.frames > FULL_ABOVE) {
            return FULL;
        }
        lots.x = seed;
        for (int i = 0; i < n; i++) {
            lots.castOn(now.grid);
            now.takeFrame(pairing);
        }
        return now.state;
    }

    // ---- what is told

    public int told(int what) {
        switch (what) {
            case 0: return now.grid.rows;
            case 1: return now.grid.columns;
            case 2: return now.bounds[TOUCH];
            case 3: return now.bounds[PALM];
            case 4: return now.bounds[FAR];
            case 5: return now.bounds[GONE];
            case 6: return now.frames;
            case 7: return now.state;
            case 8: return now.contacts.count;
            case 9: return now.contacts.palms;
            case 10: return now.tracks.count;
            case 11: return now.tracks.taps;
            case 12: return now.tracks.lifts;
            case 13: return now.tracks.nextName;
            case 14: return now.grid.lostRows;
            case 15: return now.grid.touched;
            case LAST_TOLD: return now.grid.missing;
            default: return OUTSIDE;
        }
    }

    public int cell(int row, int column, int what) {
        if (!now.grid.has(row, column)) {
            return UNKNOWN;
        }
        int at = now.grid.at(row, column);
        switch (what) {
            case 0: return now.grid.raw[at];
            case 1: return now.grid.ground[at];
            case 2: return now.grid.signal[at];
            case 3: return now.grid.isTouched(at) ? 1 : 0;
            case LAST_OF_CELL: return now.grid.peak[at];
            default: return OUTSIDE;
        }
    }

    public int contact(int k, int what) {
        if (!within(what, 0, LAST_OF_CONTACT)) {
            return OUTSIDE;
        }
        if (!within(k, 0, now.contacts.count - 1)) {
            return NONE;
        }
        int peak = now.contacts.peaks[k];
        switch (what) {
            case 0: return peak;
            case 1: return now.grid.areaOf(peak);
            case 2: return now.grid.heavyOf(peak);
            case 3: return now.grid.centreOf(peak, false);
            default: return now.grid.centreOf(peak, true);
        }
    }

    public int track(int t, int what) {
        if (!now.tracks.has(t)) {
            return UNKNOWN;
        }
        switch (what) {
            case 0: return now.tracks.name[t];
            case 1: return now.tracks.peak[t];
            case 2: return now.tracks.age[t];
            case 3: return now.tracks.missed[t];
            case LAST_OF_TRACK: return now.tracks.moved[t];
            default: return OUTSIDE;
        }
    }

    public int named(int name) {
        for (int t = 0; t < now.tracks.count; t++) {
            if (now.tracks.name[t] == name) {
                return t;
            }
        }
        return NONE;
    }

    // ---- asked

    public int paired(int t) {
        if (t != NONE && !now.tracks.has(t)) {
            return UNKNOWN;
        }
        now.pairUp(pairing);
        return t == NONE ? pairing.total : pairing.contactOf(t);
    }

    public int rule(int state, int n, int m, int d) {
        boolean known = within(state, 0, LAST_STATE) && within(n, 0, MOST_FINGERS)
                && within(m, 0, MOST_RULE_NUMBER) && within(d, 0, MOST_RULE_NUMBER);
        return known ? stateAfter(state, n, m, d) : OUTSIDE;
    }

    public long ghosts(int rows, int columns, int k) {
        boolean known = within(rows, 0, (1 << now.grid.rows) - 1)
                && within(columns, 0, (1 << now.grid.columns) - 1) && within(k, 0, MOST_GHOSTS);
        return known ? waysToCover(Integer.bitCount(rows), Integer.bitCount(columns), k) : OUTSIDE;
    }

    public long digest() {
        long h = 17;
        for (int what = 6; what <= 13; what++) {
            h = 31 * h + told(what);
        }
        h = digestCells(h);
        for (int k = 0; k < now.contacts.count; k++) {
            for (int what = 0; what <= LAST_OF_CONTACT; what++) {
                h = 31 * h + contact(k, what);
            }
        }
        for (int t = 0; t < now.tracks.count; t++) {
            for (int what = 0; what <= LAST_OF_TRACK; what++) {
                h = 31 * h + track(t, what);
            }
        }
        return h;
    }

    // ---- images

    public int keep(int i) {
        if (!within(i, 0, IMAGES - 1)) {
            return UNKNOWN;
        }
        imageAt(i).copyFrom(now);
        keptImages |= 1 << i;
        return 1;
    }

    public int goBack(int i) {
        if (!within(i, 0, IMAGES - 1)) {
            return UNKNOWN;
        }
        if ((keptImages & 1 << i) == 0) {
            return NOT;
        }
        now.copyFrom(imageAt(i));
        return 1;
    }

    // ---- helpers

    private Scene imageAt(int i) {
        return i == 0 ? imageZero : imageOne;
    }

    private long digestCells(long from) {
        long h = from;
        for (int row = 0; row < now.grid.rows; row++) {
            for (int column = 0; column < now.grid.columns; column++) {
                for (int what = 0; what <= LAST_OF_CELL; what++) {
                    h = 31 * h + cell(row, column, what);
                }
            }
        }
        return h;
    }

    private static boolean within(int v, int least, int most) {
        return v >= least && v <= most;
    }

    /** The STATE that follows, with n TRACKS, MOVED of the first, and by how much the WAY between two differs. */
    private static int stateAfter(int state, int n, int moved, int difference) {
        if (n <= 0) {
            return 0;
        }
        if (n >= 3) {
            return 5;
        }
        return n == 1 ? stateWithOne(state, moved) : stateWithTwo(state, difference);
    }

    private static int stateWithOne(int state, int moved) {
        switch (state) {
            case 1: return moved >= DRAG_MOVED ? 2 : 1;
            case 2: return 2;
            case 4: return 2;
            default: return 1;
        }
    }

    private static int stateWithTwo(int state, int difference) {
        switch (state) {
            case 3: return difference >= PINCH_DIFFERENCE ? 4 : 3;
            case 4: return 4;
            default: return 3;
        }
    }

    /** By inclusion and exclusion: take all choices, less those that leave a row or a column empty. */
    private static long waysToCover(int rows, int columns, int k) {
        long ways = 0;
        for (int r = 0; r <= rows; r++) {
            for (int c = 0; c <= columns; c++) {
                long without = choose(rows, r) * choose(columns, c) * choose((rows - r) * (columns - c), k);
                ways += (r + c) % 2 == 0 ? without : -without;
            }
        }
        return ways;
    }

    /** Each product of i factors is a whole multiple of i's factorial, so no division leaves anything over. */
    private static long choose(int n, int k) {
        long ways = 1;
        for (int i = 0; i < k; i++) {
            ways = ways * (n - i) / (i + 1);
        }
        return ways;
    }

    private static int wayBetween(int peak, int other, int columns) {
        if (columns < 1) {
            return 0;
        }
        return Math.abs(peak / columns - other / columns) + Math.abs(peak % columns - other % columns);
    }

    /** All that is so: what an IMAGE keeps. */
    private static final class Scene {
        final int[] bounds = FIRST_BOUNDS.clone();
        final Grid grid = new Grid();
        final Contacts contacts = new Contacts();
        final Tracks tracks = new Tracks();
        int frames = 0;
        int state = 0;
        /** The WAY between both TRACKS when STATE became 3. */
        int wayAtThree = 0;

        void beginAnew(int rows, int columns) {
            grid.beginAnew(rows, columns);
            contacts.forget();
            tracks.forget();
            frames = 0;
            state = 0;
            wayAtThree = 0;
        }

        void copyFrom(Scene other) {
            System.arraycopy(other.bounds, 0, bounds, 0, bounds.length);
            grid.copyFrom(other.grid);
            contacts.copyFrom(other.contacts);
            tracks.copyFrom(other.tracks);
            frames = other.frames;
            state = other.state;
            wayAtThree = other.wayAtThree;
        }

        void takeFrame(Pairing pairing) {
            grid.read(bounds[TOUCH]);
            grid.climb();
            contacts.gather(grid, bounds[PALM]);
            pairUp(pairing);
            tracks.follow(contacts, pairing, bounds[GONE]);
            changeState();
            frames++;
            grid.lostRows = 0;
        }

        void pairUp(Pairing pairing) {
            pairing.measure(tracks, contacts, grid.columns, bounds[FAR]);
            pairing.fillLeast();
            pairing.chooseFirst();
        }

        private void changeState() {
            int way = tracks.count == 2 ? wayBetween(tracks.peak[0], tracks.peak[1], grid.columns) : 0;
            int next = stateAfter(state, tracks.count, tracks.moved[0], Math.abs(way - wayAtThree));
            if (next == 3 && state != 3) {
                wayAtThree = way;
            }
            state = next;
        }
    }

    /** The CELLS: their RAW and GROUND, and what the latest FRAME made of them. */
    private static final class Grid {
        int rows = FIRST_SIDE;
        int columns = FIRST_SIDE;
        final int[] raw = new int[MOST_CELLS];
        final int[] ground = new int[MOST_CELLS];
        final int[] signal = new int[MOST_CELLS];
        /** NONE where a CELL is not TOUCHED; while climbing: the CELL that it leads to. */
        final int[] peak = new int[MOST_CELLS];
        int lostRows = 0;
        int touched = 0;
        int missing = 0;

        Grid() {
            Arrays.fill(peak, NONE);
        }

        void beginAnew(int newRows, int newColumns) {
            rows = newRows;
            columns = newColumns;
            Arrays.fill(raw, 0);
            Arrays.fill(ground, 0);
            Arrays.fill(signal, 0);
            Arrays.fill(peak, NONE);
            lostRows = 0;
            touched = 0;
            missing = 0;
        }

        void copyFrom(Grid other) {
            rows = other.rows;
            columns = other.columns;
            System.arraycopy(other.raw, 0, raw, 0, MOST_CELLS);
            System.arraycopy(other.ground, 0, ground, 0, MOST_CELLS);
            System.arraycopy(other.signal, 0, signal, 0, MOST_CELLS);
            System.arraycopy(other.peak, 0, peak, 0, MOST_CELLS);
            lostRows = other.lostRows;
            touched = other.touched;
            missing = other.missing;
        }

        int cells() {
            return rows * columns;
        }

        boolean hasRow(int row) {
            return row >= 0 && row < rows;
        }

        boolean has(int row, int column) {
            return row >= 0 && row < rows && column >= 0 && column < columns;
        }

        boolean hasCell(int at) {
            return at >= 0 && at < rows * columns;
        }

        int at(int row, int column) {
            return row * columns + column;
        }

        boolean isTouched(int at) {
            return peak[at] != NONE;
        }

        boolean isLost(int row) {
            return (lostRows & 1 << row) != 0;
        }

        void markLost(int row) {
            lostRows |= 1 << row;
        }

        private boolean stands(int row) {
            return hasRow(row) && !isLost(row);
        }

        /** A CELL beyond the edge takes nothing. */
        void charge(int row, int column, int more) {
            if (has(row, column)) {
                int at = at(row, column);
                raw[at] = Math.min(MOST_RAW, raw[at] + more);
            }
        }

        int clearRaw() {
            int charged = 0;
            int cells = cells();
            for (int at = 0; at < cells; at++) {
                if (raw[at] != 0) {
                    charged++;
                }
                raw[at] = 0;
            }
            return charged;
        }

        void read(int touchBound) {
            touched = 0;
            missing = 0;
            for (int row = 0; row < rows; row++) {
                if (!isLost(row)) {
                    readRow(row, SIXTEENTHS * touchBound);
                } else if (stands(row - 1) && stands(row + 1)) {
                    bridgeRow(row, SIXTEENTHS * touchBound);
                } else {
                    missRow(row);
                }
            }
        }

        private void readRow(int row, int least) {
            int end = at(row, columns);
            for (int at = at(row, 0); at < end; at++) {
                feel(at, SIXTEENTHS * raw[at], least);
                if (!isTouched(at)) {
                    ground[at] += signal[at] / SIXTEENTHS;
                }
            }
        }

        private void bridgeRow(int row, int least) {
            int end = at(row, columns);
            for (int at = at(row, 0); at < end; at++) {
                feel(at, SIXTEENTHS * (raw[at - columns] + raw[at + columns]) / 2, least);
            }
        }

        private void missRow(int row) {
            int end = at(row, columns);
            for (int at = at(row, 0); at < end; at++) {
                signal[at] = NO_SIGNAL;
                peak[at] = NONE;
                missing++;
            }
        }

        /** A TOUCHED CELL leads to itself until its neighbours are known. */
        private void feel(int at, int read, int least) {
            signal[at] = read - ground[at];
            peak[at] = NONE;
            if (signal[at] >= least) {
                peak[at] = at;
                touched++;
            }
        }

        void climb() {
            for (int row = 0; row < rows; row++) {
                for (int column = 0; column < columns; column++) {
                    lead(row, column);
                }
            }
            int cells = cells();
            for (int at = 0; at < cells; at++) {
                peak[at] = topFrom(at);
            }
        }

        private void lead(int row, int column) {
            int at = at(row, column);
            if (isTouched(at)) {
                int strongest = strongerOf(at, row - 1, column);
                strongest = strongerOf(strongest, row, column - 1);
                strongest = strongerOf(strongest, row, column + 1);
                peak[at] = strongerOf(strongest, row + 1, column);
            }
        }

        private int strongerOf(int best, int row, int column) {
            if (!has(row, column)) {
                return best;
            }
            int at = at(row, column);
            return isTouched(at) && isStronger(at, best) ? at : best;
        }

        boolean isStronger(int at, int other) {
            return signal[at] > signal[other] || signal[at] == signal[other] && at < other;
        }

        /** Each step goes to a STRONGER CELL, so no way up has more steps than there are CELLS. */
        private int topFrom(int at) {
            int top = peak[at];
            for (int step = 0; step < MOST_CELLS && hasCell(top) && peak[top] != top; step++) {
                top = peak[top];
            }
            return top;
        }

        int areaOf(int top) {
            int area = 0;
            int cells = cells();
            for (int at = 0; at < cells; at++) {
                if (peak[at] == top) {
                    area++;
                }
            }
            return area;
        }

        int heavyOf(int top) {
            int heavy = 0;
            int cells = cells();
            for (int at = 0; at < cells; at++) {
                if (peak[at] == top) {
                    heavy += signal[at];
                }
            }
            return heavy;
        }

        int centreOf(int top, boolean byRows) {
            long sum = 0;
            for (int row = 0; row < rows; row++) {
                for (int column = 0; column < columns; column++) {
                    int at = at(row, column);
                    if (peak[at] == top) {
                        sum += (long) signal[at] * (byRows ? row : column);
                    }
                }
            }
            int heavy = heavyOf(top);
            return heavy == 0 ? 0 : (int) (CENTRE_UNIT * sum / heavy);
        }
    }

    /** The CONTACTS of the latest FRAME, the STRONGEST first. */
    private static final class Contacts {
        final int[] peaks = new int[MOST_FINGERS];
        int count = 0;
        int palms = 0;

        void forget() {
            count = 0;
            palms = 0;
        }

        void copyFrom(Contacts other) {
            System.arraycopy(other.peaks, 0, peaks, 0, MOST_FINGERS);
            count = other.count;
            palms = other.palms;
        }

        void gather(Grid grid, int palmBound) {
            forget();
            int cells = grid.cells();
            for (int at = 0; at < cells; at++) {
                if (grid.peak[at] == at) {
                    if (grid.areaOf(at) > palmBound) {
                        palms++;
                    } else {
                        enter(grid, at);
                    }
                }
            }
        }

        private void enter(Grid grid, int at) {
            int place = count;
            while (place > 0 && grid.isStronger(at, peaks[place - 1])) {
                place--;
            }
            if (place >= MOST_FINGERS) {
                return;
            }
            count = Math.min(MOST_FINGERS, count + 1);
            for (int k = count - 1; k > place; k--) {
                peaks[k] = peaks[k - 1];
            }
            peaks[place] = at;
        }
    }

    /** The TRACKS, in the order in which they began, and how those before them ended. */
    private static final class Tracks {
        final int[] name = new int[MOST_FINGERS];
        final int[] peak = new int[MOST_FINGERS];
        final int[] age = new int[MOST_FINGERS];
        final int[] missed = new int[MOST_FINGERS];
        final int[] moved = new int[MOST_FINGERS];
        int count = 0;
        int nextName = 0;
        int taps = 0;
        int lifts = 0;

        void forget() {
            count = 0;
            nextName = 0;
            taps = 0;
            lifts = 0;
        }

        void copyFrom(Tracks other) {
            for (int t = 0; t < MOST_FINGERS; t++) {
                name[t] = other.name[t];
                peak[t] = other.peak[t];
                age[t] = other.age[t];
                missed[t] = other.missed[t];
                moved[t] = other.moved[t];
            }
            count = other.count;
            nextName = other.nextName;
            taps = other.taps;
            lifts = other.lifts;
        }

        boolean has(int t) {
            return within(t, 0, count - 1);
        }

        void follow(Contacts contacts, Pairing pairing, int goneBound) {
            for (int t = 0; t < count; t++) {
                int k = pairing.contactOf(t);
                if (within(k, 0, contacts.count - 1)) {
                    goOn(t, contacts.peaks[k], pairing.wayOf(t, k));
                } else {
                    missed[t]++;
                }
            }
            endThoseGone(goneBound);
            for (int k = 0; k < contacts.count; k++) {
                if (!pairing.isTaken(k)) {
                    begin(contacts.peaks[k]);
                }
            }
        }

        private void goOn(int t, int toPeak, int way) {
            peak[t] = toPeak;
            age[t]++;
            missed[t] = 0;
            moved[t] += way;
        }

        private void endThoseGone(int goneBound) {
            int stay = 0;
            for (int t = 0; t < count; t++) {
                if (missed[t] > goneBound) {
                    countEnd(t);
                } else {
                    moveDown(t, stay);
                    stay++;
                }
            }
            count = stay;
        }

        private void countEnd(int t) {
            if (age[t] <= TAP_AGE && moved[t] <= TAP_MOVED) {
                taps++;
            } else {
                lifts++;
            }
        }

        private void moveDown(int from, int to) {
            name[to] = name[from];
            peak[to] = peak[from];
            age[to] = age[from];
            missed[to] = missed[from];
            moved[to] = moved[from];
        }

        private void begin(int atPeak) {
            if (count < MOST_FINGERS) {
                name[count] = nextName;
                peak[count] = atPeak;
                age[count] = 1;
                missed[count] = 0;
                moved[count] = 0;
                count++;
                nextName++;
            }
        }
    }

    /** Which TRACK goes on in which CONTACT, so that WAYS and costs together are least. */
    private static final class Pairing {
        /** Above all that a pairing can cost. */
        private static final int NEVER = 1000000;

        /** By TRACK, then CONTACT. */
        private final int[] ways = new int[MOST_FINGERS * MOST_FINGERS];
        /** By TRACK, then SET of CONTACTS taken ahead of it: what it, those behind it and CONTACTS left over cost. */
        private final int[] least = new int[(MOST_FINGERS + 1) * FINGER_SETS];
        private final int[] chosen = new int[MOST_FINGERS];
        private int trackCount = 0;
        private int contactCount = 0;
        private int farBound = 0;
        private int taken = 0;
        int total = 0;

        int contactOf(int t) {
            return within(t, 0, trackCount - 1) ? chosen[t] : NONE;
        }

        boolean isTaken(int k) {
            return (taken & 1 << k) != 0;
        }

        int wayOf(int t, int k) {
            return ways[t * MOST_FINGERS + k];
        }

        void measure(Tracks tracks, Contacts contacts, int columns, int far) {
            trackCount = tracks.count;
            contactCount = contacts.count;
            farBound = far;
            for (int t = 0; t < trackCount; t++) {
                for (int k = 0; k < contactCount; k++) {
                    ways[t * MOST_FINGERS + k] = wayBetween(tracks.peak[t], contacts.peaks[k], columns);
                }
            }
        }

        /** From the last TRACK to the first, as each one builds on those behind it. */
        void fillLeast() {
            int unpaired = farBound + 1;
            int sets = 1 << contactCount;
            for (int set = 0; set < sets; set++) {
                least[trackCount * FINGER_SETS + set] = unpaired * (contactCount - Integer.bitCount(set));
            }
            for (int t = trackCount - 1; t >= 0; t--) {
                for (int set = 0; set < sets; set++) {
                    // t TRACKS are ahead of this one: they take t CONTACTS at most
                    if (Integer.bitCount(set) <= t) {
                        least[t * FINGER_SETS + set] = leastFrom(t, set);
                    }
                }
            }
        }

        private int leastFrom(int t, int set) {
            int cost = farBound + 1 + least[(t + 1) * FINGER_SETS + set];
            for (int k = 0; k < contactCount; k++) {
                cost = Math.min(cost, costWith(t, k, set));
            }
            return cost;
        }

        /** What TRACK t and all behind it cost, if a SET of CONTACTS is taken ahead of it and it takes CONTACT k. */
        private int costWith(int t, int k, int set) {
            int way = ways[t * MOST_FINGERS + k];
            if ((set & 1 << k) != 0 || way > farBound) {
                return NEVER;
            }
            return way + least[(t + 1) * FINGER_SETS + (set | 1 << k)];
        }

        void chooseFirst() {
            taken = 0;
            total = least[0];
            for (int t = 0; t < trackCount; t++) {
                chosen[t] = firstOfLeast(t);
                if (chosen[t] != NONE) {
                    taken |= 1 << chosen[t];
                }
            }
        }

        private int firstOfLeast(int t) {
            for (int k = 0; k < contactCount; k++) {
                if (costWith(t, k, taken) == least[t * FINGER_SETS + taken]) {
                    return k;
                }
            }
            return NONE;
        }
    }

    /** Numbers BY LOTS of a SEED, and what they do ahead of a FRAME. */
    private static final class Lots {
        private static final long FACTOR = 16807;
        private static final long DIVISOR = 2147483647;
        private static final int KINDS = 4;
        private static final int RAW_VALUES = 1000;
        private static final int NOISE_VALUES = 30;

        long x = 1;

        private int next(int values) {
            x = x * FACTOR % DIVISOR;
            return values > 0 ? (int) (x % values) : 0;
        }

        void castOn(Grid grid) {
            switch (next(KINDS)) {
                case 0:
                    grid.clearRaw();
                    break;
                case 1:
                    chargeOne(grid);
                    break;
                case 2:
                    grid.markLost(next(grid.rows));
                    break;
                default:
                    makeNoise(grid);
                    break;
            }
        }

        private void chargeOne(Grid grid) {
            int at = next(grid.cells());
            int charge = next(RAW_VALUES);
            if (grid.hasCell(at)) {
                grid.raw[at] = charge;
            }
        }

        private void makeNoise(Grid grid) {
            int cells = grid.cells();
            for (int at = 0; at < cells; at++) {
                grid.raw[at] = next(NOISE_VALUES);
            }
        }
    }
}
