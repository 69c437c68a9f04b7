import java.util.ArrayList;
import java.util.List;
import java.util.Random;

/**
 * Long runs of calls, by a fixed seed, on the class and on a second, slow writing of the document.
 * The model tries all pairings one by one and holds copies, where the class adds up and uses rows again.
 */
public final class ModelTest {
    private static final int RUNS = 1000;
    /** An object is used for 512 calls at most: a long run, or a short one with a look at all that is told after it. */
    private static final int LONG_RUN = 512, SHORT_RUN = 90;
    private static final int UNKNOWN = -1000000001, OUTSIDE = -1000000002, NOT = -1000000003, FULL = -1000000004;

    public static void main(String[] args) {
        for (int run = 0; run < RUNS; run++) {
            Random lots = new Random(run);
            TouchPanel x = new TouchPanel();
            Model y = new Model();
            StringBuilder calls = new StringBuilder();
            boolean isLong = run % 2 == 0;
            boolean same = true;
            for (int i = 0; same && i < (isLong ? LONG_RUN : SHORT_RUN); i++) {
                same = lots.nextInt(3) > 0 ? sameChange(x, y, lots, calls) : sameAnswer(x, y, lots, calls);
            }
            if (!same || !isLong && !sameSight(x, y, calls)) {
                Due.tell("run " + run + ":" + calls);
            }
        }
        Due.end();
    }

    /** Mostly a number that fits, now and then one at the edge or beyond it. */
    private static int number(Random lots, int least, int most) {
        int kind = lots.nextInt(40);
        if (kind == 0) {
            return least - 1;
        }
        if (kind == 1) {
            return most + 1;
        }
        if (kind == 2) {
            return lots.nextInt();
        }
        return least + lots.nextInt(Math.max(1, most - least + 1));
    }

    private static boolean sameChange(TouchPanel x, Model y, Random lots, StringBuilder calls) {
        int rows = y.now.rows;
        int columns = y.now.columns;
        int which = lots.nextInt(100);
        int a;
        int b;
        int c;
        if (which < 2) {
            a = number(lots, 2, 8);
            b = number(lots, 2, 8);
            return same(calls, "panel", x.panel(a, b), y.panel(a, b), a, b);
        } else if (which < 7) {
            a = number(lots, 0, 3);
            int[] most = {30, 20, 14, 3};
            b = number(lots, 0, a >= 0 && a < 4 ? most[a] : 9);
            return same(calls, "bound", x.bound(a, b), y.bound(a, b), a, b);
        } else if (which < 17) {
            a = number(lots, 0, rows - 1);
            b = number(lots, 0, columns - 1);
            c = number(lots, 0, lots.nextBoolean() ? 999 : 25);
            return same(calls, "set", x.set(a, b, c), y.set(a, b, c), a, b, c);
        } else if (which < 32) {
            a = number(lots, 0, rows - 1);
            b = number(lots, 0, columns - 1);
            c = number(lots, 0, lots.nextInt(5) == 0 ? 999 : 80);
            return same(calls, "press", x.press(a, b, c), y.press(a, b, c), a, b, c);
        } else if (which < 40) {
            return same(calls, "wipe", x.wipe(), y.wipe());
        } else if (which < 46) {
            a = number(lots, 0, rows - 1);
            return same(calls, "lose", x.lose(a), y.lose(a), a);
        } else if (which < 86) {
            a = lots.nextInt(4) == 0 ? number(lots, 1, 30) : 1;
            return same(calls, "frame", x.frame(a), y.frame(a), a);
        } else if (which < 94) {
            a = lots.nextBoolean() ? number(lots, 1, 30) : 1;
            b = number(lots, 1, 999999);
            return same(calls, "drift", x.drift(a, b), y.drift(a, b), a, b);
        } else if (which < 97) {
            a = number(lots, 0, 1);
            return same(calls, "keep", x.keep(a), y.keep(a), a);
        }
        a = number(lots, 0, 1);
        return same(calls, "goBack", x.goBack(a), y.goBack(a), a);
    }

    private static boolean sameAnswer(TouchPanel x, Model y, Random lots, StringBuilder calls) {
        int a = number(lots, 0, 5);
        int b = number(lots, 0, 4);
        int c = number(lots, 0, 16);
        switch (lots.nextInt(12)) {
            case 0:
                return same(calls, "told", x.told(c), y.told(c), c);
            case 1:
                a = number(lots, 0, y.now.rows - 1);
                c = number(lots, 0, y.now.columns - 1);
                return same(calls, "cell", x.cell(a, c, b), y.cell(a, c, b), a, c, b);
            case 2:
                return same(calls, "contact", x.contact(a, b), y.contact(a, b), a, b);
            case 3:
                return same(calls, "track", x.track(a, b), y.track(a, b), a, b);
            case 4:
                a = number(lots, Math.max(0, y.now.nextName - 7), y.now.nextName);
                return same(calls, "named", x.named(a), y.now.named(a), a);
            case 5:
                c = number(lots, 0, 99);
                int d = number(lots, 0, 3);
                return same(calls, "rule", x.rule(a, b, c, d), y.rule(a, b, c, d), a, b, c, d);
            case 6:
                a = number(lots, 0, (1 << y.now.rows) - 1);
                b = number(lots, 0, (1 << y.now.columns) - 1);
                return same(calls, "ghosts", x.ghosts(a, b, c), y.ghosts(a, b, c), a, b, c);
            case 7, 8:
                a = number(lots, -1, 5);
                return same(calls, "paired", x.paired(a), y.paired(a), a);
            default:
                return same(calls, "digest", x.digest(), y.digest());
        }
    }

    private static boolean same(StringBuilder calls, String call, long got, long want, int... numbers) {
        calls.append(' ').append(call).append('(');
        for (int i = 0; i < numbers.length; i++) {
            calls.append(i == 0 ? "" : ", ").append(numbers[i]);
        }
        calls.append(')');
        if (got != want) {
            Due.tell(call + " answered " + got + ", due is " + want);
        }
        return got == want;
    }

    /** As much as all of it, 416 calls at most. */
    private static boolean sameSight(TouchPanel x, Model y, StringBuilder calls) {
        boolean same = true;
        for (int what = 0; what <= 16; what++) {
            same &= same(calls, "told", x.told(what), y.told(what), what);
        }
        for (int row = 0; row < y.now.rows; row++) {
            for (int column = 0; column < y.now.columns; column++) {
                for (int what = 0; what <= 4; what++) {
                    same &= same(calls, "cell", x.cell(row, column, what), y.cell(row, column, what), row, column, what);
                }
            }
        }
        for (int i = 0; i <= 6; i++) {
            for (int what = 0; what <= 4; what++) {
                same &= same(calls, "contact", x.contact(i, what), y.contact(i, what), i, what);
                same &= same(calls, "track", x.track(i, what), y.track(i, what), i, what);
            }
        }
        for (int name = y.now.nextName - 8; name <= y.now.nextName; name++) {
            same &= same(calls, "named", x.named(name), y.now.named(name), name);
        }
        return same;
    }

    /** The document, told again in the plainest way. */
    private static final class Model {
        Scene now = new Scene(4, 4, new int[] {10, 9, 3, 1});
        final Scene[] images = new Scene[2];

        int panel(int rows, int columns) {
            if (rows < 2 || rows > 8 || columns < 2 || columns > 8) {
                return OUTSIDE;
            }
            now = new Scene(rows, columns, now.bounds);
            return rows * columns;
        }

        int bound(int what, int v) {
            int[][] edges = {{1, 200}, {1, 64}, {0, 14}, {0, 3}};
            if (what < 0 || what > 3 || v < edges[what][0] || v > edges[what][1]) {
                return OUTSIDE;
            }
            int was = now.bounds[what];
            now.bounds[what] = v;
            return was;
        }

        private int refusal(int row, int column, int v) {
            if (row < 0 || row >= now.rows || column < 0 || column >= now.columns) {
                return UNKNOWN;
            }
            return v < 0 || v > 999 ? OUTSIDE : 0;
        }

        int set(int row, int column, int v) {
            int refused = refusal(row, column, v);
            if (refused != 0) {
                return refused;
            }
            int at = row * now.columns + column;
            int was = now.raw[at];
            now.raw[at] = v;
            return was;
        }

        int press(int row, int column, int v) {
            int refused = refusal(row, column, v);
            if (refused != 0) {
                return refused;
            }
            for (int at = 0; at < now.raw.length; at++) {
                int way = now.way(at, row * now.columns + column);
                int more = way == 0 ? v : way == 1 ? v / 2 : 0;
                now.raw[at] = Math.min(999, now.raw[at] + more);
            }
            return now.raw[row * now.columns + column];
        }

        int wipe() {
            int were = 0;
            for (int at = 0; at < now.raw.length; at++) {
                were += now.raw[at] != 0 ? 1 : 0;
                now.raw[at] = 0;
            }
            return were;
        }

        int lose(int row) {
            if (row < 0 || row >= now.rows) {
                return UNKNOWN;
            }
            if ((now.lost >> row & 1) == 1) {
                return NOT;
            }
            return now.lost += 1 << row;
        }

        int frame(int n) {
            if (n < 1 || n > 30) {
                return OUTSIDE;
            }
            if (now.frames > 9000) {
                return FULL;
            }
            for (int i = 0; i < n; i++) {
                now.take();
            }
            return now.state;
        }

        int drift(int n, int seed) {
            if (n < 1 || n > 30 || seed < 1 || seed > 999999) {
                return OUTSIDE;
            }
            if (now.frames > 9000) {
                return FULL;
            }
            long x = seed;
            for (int i = 0; i < n; i++) {
                x = x * 16807 % 2147483647;
                long kind = x % 4;
                if (kind == 0) {
                    wipe();
                } else if (kind == 1) {
                    x = x * 16807 % 2147483647;
                    int at = (int) (x % now.raw.length);
                    x = x * 16807 % 2147483647;
                    now.raw[at] = (int) (x % 1000);
                } else if (kind == 2) {
                    x = x * 16807 % 2147483647;
                    now.lost |= 1 << x % now.rows;
                } else {
                    for (int at = 0; at < now.raw.length; at++) {
                        x = x * 16807 % 2147483647;
                        now.raw[at] = (int) (x % 30);
                    }
                }
                now.take();
            }
            return now.state;
        }

        int told(int what) {
            Scene s = now;
            int[] told = {s.rows, s.columns, s.bounds[0], s.bounds[1], s.bounds[2], s.bounds[3], s.frames, s.state,
                s.contacts.size(), s.palms, s.tracks.size(), s.taps, s.lifts, s.nextName, s.lost, s.touched(), s.missing};
            return what < 0 || what > 16 ? OUTSIDE : told[what];
        }

        int cell(int row, int column, int what) {
            if (refusal(row, column, 0) != 0) {
                return UNKNOWN;
            }
            int at = row * now.columns + column;
            int[] cell = {now.raw[at], now.ground[at], now.signal[at], now.peak[at] < 0 ? 0 : 1, now.peak[at]};
            return what < 0 || what > 4 ? OUTSIDE : cell[what];
        }

        int contact(int k, int what) {
            if (what < 0 || what > 4) {
                return OUTSIDE;
            }
            return k < 0 || k >= now.contacts.size() ? -1 : now.contact(k, what);
        }

        int track(int t, int what) {
            if (t < 0 || t >= now.tracks.size()) {
                return UNKNOWN;
            }
            return what < 0 || what > 4 ? OUTSIDE : now.tracks.get(t)[what];
        }

        int rule(int state, int n, int m, int d) {
            if (state < 0 || state > 5 || n < 0 || n > 6 || m < 0 || m > 99 || d < 0 || d > 99) {
                return OUTSIDE;
            }
            return Scene.next(state, n, m, d);
        }

        long digest() {
            long h = 17;
            for (int what = 6; what <= 13; what++) {
                h = 31 * h + told(what);
            }
            for (int at = 0; at < now.raw.length; at++) {
                for (int what = 0; what <= 4; what++) {
                    h = 31 * h + cell(at / now.columns, at % now.columns, what);
                }
            }
            for (int k = 0; k < now.contacts.size(); k++) {
                for (int what = 0; what <= 4; what++) {
                    h = 31 * h + contact(k, what);
                }
            }
            for (int[] track : now.tracks) {
                for (int v : track) {
                    h = 31 * h + v;
                }
            }
            return h;
        }

        int paired(int t) {
            if (t < -1 || t >= now.tracks.size()) {
                return UNKNOWN;
            }
            int[] best = now.pairing();
            return t == -1 ? best[best.length - 1] : best[t];
        }

        long ghosts(int rows, int columns, int k) {
            if (rows < 0 || rows >= 1 << now.rows || columns < 0 || columns >= 1 << now.columns || k < 0 || k > 16) {
                return OUTSIDE;
            }
            return cover(Integer.bitCount(rows), Integer.bitCount(columns), k);
        }

        /** All choices in that many rows and columns, less those that cover fewer of them. */
        private static long cover(int rows, int columns, int k) {
            long[][] exact = new long[rows + 1][columns + 1];
            for (int r = 0; r <= rows; r++) {
                for (int c = 0; c <= columns; c++) {
                    exact[r][c] = choose(r * c, k);
                    for (int i = 0; i <= r; i++) {
                        for (int j = 0; j <= c; j++) {
                            if (i < r || j < c) {
                                exact[r][c] -= choose(r, i) * choose(c, j) * exact[i][j];
                            }
                        }
                    }
                }
            }
            return exact[rows][columns];
        }

        private static long choose(int n, int k) {
            long[] line = new long[k + 1];
            line[0] = 1;
            for (int i = 0; i < n; i++) {
                for (int j = k; j > 0; j--) {
                    line[j] += line[j - 1];
                }
            }
            return line[k];
        }

        int keep(int i) {
            if (i < 0 || i > 1) {
                return UNKNOWN;
            }
            images[i] = now.copy();
            return 1;
        }

        int goBack(int i) {
            if (i < 0 || i > 1) {
                return UNKNOWN;
            }
            if (images[i] == null) {
                return NOT;
            }
            now = images[i].copy();
            return 1;
        }

        private static final class Scene {
            final int rows;
            final int columns;
            final int[] bounds;
            int[] raw;
            int[] ground;
            int[] signal;
            int[] peak;
            int lost = 0;
            int missing = 0;
            int palms = 0;
            int frames = 0;
            int state = 0;
            int wayOfThree = 0;
            int taps = 0;
            int lifts = 0;
            int nextName = 0;
            List<Integer> contacts = new ArrayList<>();
            /** NAME, PEAK, AGE, MISSED, MOVED. */
            List<int[]> tracks = new ArrayList<>();

            Scene(int rows, int columns, int[] bounds) {
                this.rows = rows;
                this.columns = columns;
                this.bounds = bounds.clone();
                raw = new int[rows * columns];
                ground = new int[rows * columns];
                signal = new int[rows * columns];
                peak = new int[rows * columns];
                java.util.Arrays.fill(peak, -1);
            }

            Scene copy() {
                Scene c = new Scene(rows, columns, bounds);
                c.raw = raw.clone();
                c.ground = ground.clone();
                c.signal = signal.clone();
                c.peak = peak.clone();
                c.lost = lost;
                c.missing = missing;
                c.palms = palms;
                c.frames = frames;
                c.state = state;
                c.wayOfThree = wayOfThree;
                c.taps = taps;
                c.lifts = lifts;
                c.nextName = nextName;
                c.contacts = new ArrayList<>(contacts);
                for (int[] track : tracks) {
                    c.tracks.add(track.clone());
                }
                return c;
            }

            int way(int a, int b) {
                return Math.abs(a / columns - b / columns) + Math.abs(a % columns - b % columns);
            }

            int touched() {
                int n = 0;
                for (int p : peak) {
                    n += p >= 0 ? 1 : 0;
                }
                return n;
            }

            int named(int name) {
                for (int t = 0; t < tracks.size(); t++) {
                    if (tracks.get(t)[0] == name) {
                        return t;
                    }
                }
                return -1;
            }

            int contact(int k, int what) {
                int top = contacts.get(k);
                int area = 0;
                int heavy = 0;
                int byColumns = 0;
                int byRows = 0;
                for (int at = 0; at < peak.length; at++) {
                    if (peak[at] == top) {
                        area++;
                        heavy += signal[at];
                        byColumns += signal[at] * (at % columns);
                        byRows += signal[at] * (at / columns);
                    }
                }
                return new int[] {top, area, heavy, 256 * byColumns / heavy, 256 * byRows / heavy}[what];
            }

            private boolean readable(int row) {
                return row >= 0 && row < rows && (lost >> row & 1) == 0;
            }

            void take() {
                boolean[] touch = new boolean[raw.length];
                missing = 0;
                for (int at = 0; at < raw.length; at++) {
                    int row = at / columns;
                    int read = 16 * raw[at];
                    if (!readable(row)) {
                        if (!readable(row - 1) || !readable(row + 1)) {
                            signal[at] = -99999;
                            missing++;
                            continue;
                        }
                        read = (16 * raw[at - columns] + 16 * raw[at + columns]) / 2;
                    }
                    signal[at] = read - ground[at];
                    touch[at] = signal[at] >= 16 * bounds[0];
                    if (!touch[at] && readable(row)) {
                        ground[at] += (read - ground[at]) / 16;
                    }
                }
                for (int at = 0; at < raw.length; at++) {
                    peak[at] = touch[at] ? top(at, touch) : -1;
                }
                findContacts();
                follow();
                step();
                frames++;
                lost = 0;
            }

            private boolean stronger(int a, int b) {
                return signal[a] != signal[b] ? signal[a] > signal[b] : a < b;
            }

            private int top(int at, boolean[] touch) {
                int best = at;
                for (int other = 0; other < raw.length; other++) {
                    if (touch[other] && way(at, other) == 1 && stronger(other, best)) {
                        best = other;
                    }
                }
                return best == at ? at : top(best, touch);
            }

            private void findContacts() {
                contacts.clear();
                palms = 0;
                for (int at = 0; at < peak.length; at++) {
                    if (peak[at] == at) {
                        int area = 0;
                        for (int p : peak) {
                            area += p == at ? 1 : 0;
                        }
                        if (area > bounds[1]) {
                            palms++;
                        } else {
                            contacts.add(at);
                        }
                    }
                }
                contacts.sort((a, b) -> stronger(a, b) ? -1 : a.equals(b) ? 0 : 1);
                while (contacts.size() > 6) {
                    contacts.remove(6);
                }
            }

            /** CONTACT of each TRACK, and at last what it all comes to. */
            int[] pairing() {
                int[] best = new int[tracks.size() + 1];
                best[tracks.size()] = Integer.MAX_VALUE;
                tryAll(0, new int[tracks.size()], new boolean[contacts.size()], 0, best);
                return best;
            }

            private void tryAll(int t, int[] chosen, boolean[] taken, int cost, int[] best) {
                if (t == chosen.length) {
                    int all = cost;
                    for (boolean k : taken) {
                        all += k ? 0 : bounds[2] + 1;
                    }
                    if (all < best[t]) {
                        System.arraycopy(chosen, 0, best, 0, t);
                        best[t] = all;
                    }
                    return;
                }
                for (int k = 0; k < taken.length; k++) {
                    int way = way(tracks.get(t)[1], contacts.get(k));
                    if (!taken[k] && way <= bounds[2]) {
                        taken[k] = true;
                        chosen[t] = k;
                        tryAll(t + 1, chosen, taken, cost + way, best);
                        taken[k] = false;
                    }
                }
                chosen[t] = -1;
                tryAll(t + 1, chosen, taken, cost + bounds[2] + 1, best);
            }

            private void follow() {
                int[] best = pairing();
                List<Integer> left = new ArrayList<>(contacts);
                List<int[]> stay = new ArrayList<>();
                for (int t = 0; t < tracks.size(); t++) {
                    int[] track = tracks.get(t);
                    if (best[t] >= 0) {
                        int to = contacts.get(best[t]);
                        left.remove(Integer.valueOf(to));
                        track[4] += way(track[1], to);
                        track[1] = to;
                        track[2]++;
                        track[3] = 0;
                        stay.add(track);
                    } else if (++track[3] <= bounds[3]) {
                        stay.add(track);
                    } else if (track[2] <= 3 && track[4] <= 1) {
                        taps++;
                    } else {
                        lifts++;
                    }
                }
                for (int to : left) {
                    if (stay.size() < 6) {
                        stay.add(new int[] {nextName++, to, 1, 0, 0});
                    }
                }
                tracks = stay;
            }

            private void step() {
                int n = tracks.size();
                int was = state;
                int between = n == 2 ? way(tracks.get(0)[1], tracks.get(1)[1]) : 0;
                state = next(was, n, n == 0 ? 0 : tracks.get(0)[4], Math.abs(between - wayOfThree));
                if (state == 3 && was != 3) {
                    wayOfThree = between;
                }
            }

            static int next(int was, int n, int moved, int differs) {
                if (n == 0) {
                    return 0;
                } else if (n >= 3) {
                    return 5;
                } else if (was == 0 || was == 5) {
                    return n == 1 ? 1 : 3;
                } else if (was == 1) {
                    return n == 2 ? 3 : moved >= 2 ? 2 : 1;
                } else if (was == 2) {
                    return n == 2 ? 3 : 2;
                } else if (was == 3) {
                    return n == 1 ? 1 : differs >= 2 ? 4 : 3;
                }
                return n == 2 ? 4 : 2;
            }
        }
    }
}
