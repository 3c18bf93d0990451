import java.util.ArrayList;
import java.util.List;

/**
 * The document once more, sentence by sentence and with no thought of speed: rows of named numbers,
 * so that what it shares with the class is the document alone.
 */
final class Model {
    private static final int MODE = 0, TOP = 1, SHARE = 2, SOURCE = 3, COUNT = 4, PHASE = 5, WAY = 6, OVERS = 7,
        WAITS = 8;
    private static final int RAW = 0, STEADY = 1, RUN = 2, FILTER = 3;
    private static final int COUNTER = 0, EDGES = 1, EVERY = 2, SEEN = 3, VALUE = 4, READY = 5, MISSED = 6;
    private static final int CMODE = 1, MARK = 2, LEVEL = 3, SINCE = 4, DEAD = 5, POLARITY = 6, SAFE = 7;

    private final int[][] counters = new int[4][];
    private final int[][] inputs = new int[4][];
    private final int[][] catchers = new int[4][];
    private final int[][] channels = new int[4][];
    private final int[] pins = new int[8];
    private final List<int[]> record = new ArrayList<>();
    private final boolean[] holds = new boolean[2];
    private final Integer[] held = new Integer[2];
    private int tick;
    private boolean braked;
    private int period = 4;
    private int crossedCounter;
    private int how;
    private int first;
    private int second;

    Model() {
        for (int k = 0; k < 4; k++) {
            counters[k] = new int[] {0, 99, 1, 0, 0, 0, 1, 0, -9};
            inputs[k] = new int[] {0, 0, 0, 1};
            catchers[k] = new int[] {0, 0, 1, 0, 0, 0, 0};
            channels[k] = new int[8];
        }
    }

    private static boolean no(int v, int from, int to) {
        return v < from || v > to;
    }

    int call(String name, int a, int b, int c, int d) {
        switch (name) {
            case "counter": {
                if (no(a, 0, 3)) return -1;
                if (no(b, 0, 2) || no(c, 1, 9999) || no(d, 1, 64)) return -2;
                counters[a] = new int[] {b, c, d, counters[a][SOURCE], 0, 0, 1, 0, -9};
                return 1;
            }
            case "source": {
                if (no(a, 0, 3)) return -1;
                if (no(b, 0, 3)) return -2;
                if (b == 2 && a == 0) return -3;
                return put(counters[a], SOURCE, b);
            }
            case "count": {
                if (no(a, 0, 3)) return -1;
                if (no(b, 0, counters[a][TOP])) return -2;
                return put(counters[a], COUNT, b);
            }
            case "top": {
                if (no(a, 0, 3)) return -1;
                if (no(b, 1, 9999)) return -2;
                counters[a][WAITS] = b;
                return counters[a][TOP];
            }
            case "ofCounter": {
                if (no(a, 0, 3)) return -1;
                if (no(b, 0, 8)) return -2;
                int[] told = {COUNT, TOP, MODE, SHARE, SOURCE, PHASE, WAY, OVERS, WAITS};
                return counters[a][told[b]];
            }
            case "input": {
                if (no(a, 0, 3)) return -1;
                if (no(b, 0, 1)) return -2;
                return put(inputs[a], RAW, b);
            }
            case "filter": {
                if (no(a, 0, 3)) return -1;
                if (no(b, 1, 8)) return -2;
                return put(inputs[a], FILTER, b);
            }
            case "ofInput":
                return of(inputs, a, b);
            case "catcher": {
                if (no(a, 0, 3) || no(b, 0, 3)) return -1;
                if (no(c, 0, 3) || no(d, 1, 4)) return -2;
                catchers[a] = new int[] {b, c, d, 0, 0, 0, 0};
                return 1;
            }
            case "taken": {
                if (no(a, 0, 3)) return -1;
                return put(catchers[a], READY, 0) == 1 ? catchers[a][VALUE] : -9;
            }
            case "ofCatcher":
                return of(catchers, a, b);
            case "ticks": {
                if (no(a, 0, 400)) return -2;
                for (int i = 0; i < a; i++) oneTick();
                return tick;
            }
            default:
                return callOfChannels(name, a, b, c, d);
        }
    }

    private int callOfChannels(String name, int a, int b, int c, int d) {
        switch (name) {
            case "channel": {
                if (no(a, 0, 3) || no(b, 0, 3)) return -1;
                if (no(c, 0, 4) || no(d, 0, 9999)) return -2;
                int[] was = channels[a];
                channels[a] = new int[] {b, c, d, 0, 0, was[DEAD], was[POLARITY], was[SAFE]};
                pinsAnew();
                return 1;
            }
            case "outputs": {
                if (no(a, 0, 3)) return -1;
                if (no(b, 0, 20) || no(c, 0, 3) || no(d, 0, 3)) return -2;
                channels[a][DEAD] = b;
                channels[a][POLARITY] = c;
                channels[a][SAFE] = d;
                pinsAnew();
                return 1;
            }
            case "ofChannel": {
                if (no(a, 0, 3)) return -1;
                if (no(b, 0, 8)) return -2;
                return b < 8 ? channels[a][b] : (on(a, 0) ? 1 : 0) + (on(a, 1) ? 2 : 0);
            }
            case "pin":
                return no(a, 0, 7) ? -2 : pins[a];
            case "brake": {
                int answer = braked ? 0 : 1;
                braked = true;
                pinsAnew();
                return answer;
            }
            case "arm": {
                int answer = braked ? 1 : 0;
                braked = false;
                pinsAnew();
                return answer;
            }
            case "record": {
                if (no(a, 0, 23) || no(b, 0, 2)) return -2;
                return a < record.size() ? record.get(record.size() - 1 - a)[b] : -9;
            }
            default:
                return callOfTheRest(name, a, b, c);
        }
    }

    private int callOfTheRest(String name, int a, int b, int c) {
        switch (name) {
            case "holds": {
                if (no(a, 0, 1)) return -1;
                if (no(b, 0, 1)) return -2;
                int was = holds[a] ? 1 : 0;
                holds[a] = b == 1;
                held[a] = null;
                return was;
            }
            case "read": {
                if (no(a, 0, 1)) return -1;
                if (no(b, 0, 1)) return -2;
                if (!whole(a)) return -3;
                return b == 0 ? readLow(a) : readHigh(a);
            }
            case "wide": {
                if (no(a, 0, 1)) return -1;
                if (!whole(a)) return -3;
                return counters[2 * a + 1][COUNT] * (counters[2 * a][TOP] + 1) + counters[2 * a][COUNT];
            }
            case "slow": {
                if (no(b, 0, 3)) return -1;
                if (no(a, 2, 16) || no(c, 0, 1)) return -2;
                period = a;
                crossedCounter = b;
                how = c;
                first = 0;
                second = 0;
                return 1;
            }
            case "crossed":
                return no(a, 0, 4) ? -2 : new int[] {first, second, period, crossedCounter, how}[a];
            case "many":
                return no(a, 0, 5) ? -2 : howMany(a);
            default:
                throw new IllegalArgumentException(name);
        }
    }

    private static int put(int[] row, int what, int v) {
        int was = row[what];
        row[what] = v;
        return was;
    }

    private static int of(int[][] rows, int a, int b) {
        if (no(a, 0, 3)) return -1;
        return no(b, 0, rows[a].length - 1) ? -2 : rows[a][b];
    }

    private int howMany(int what) {
        int ready = 0;
        int overs = 0;
        int ons = 0;
        for (int k = 0; k < 4; k++) {
            ready += catchers[k][READY];
            overs += counters[k][OVERS];
            for (int o = 0; o < 2; o++) if (on(k, o)) ons++;
        }
        return new int[] {tick, braked ? 1 : 0, ons, record.size(), ready, overs}[what];
    }

    private boolean whole(int k) {
        int[] low = counters[2 * k];
        int[] high = counters[2 * k + 1];
        return high[SOURCE] == 2 && high[SHARE] == 1 && low[MODE] == 0 && high[MODE] == 0;
    }

    private int readLow(int k) {
        held[k] = counters[2 * k + 1][COUNT];
        return counters[2 * k][COUNT];
    }

    private int readHigh(int k) {
        int answer = counters[2 * k + 1][COUNT];
        if (holds[k] && held[k] != null) {
            answer = held[k];
            held[k] = null;
        }
        return answer;
    }

    private void oneTick() {
        int ahead = counters[crossedCounter][COUNT];
        boolean[] rising = new boolean[4];
        boolean[] falling = new boolean[4];
        for (int k = 0; k < 4; k++) {
            int[] in = inputs[k];
            if (in[RAW] != in[STEADY]) {
                in[RUN]++;
                if (in[RUN] >= in[FILTER]) {
                    in[STEADY] = in[RAW];
                    in[RUN] = 0;
                    rising[k] = in[STEADY] == 1;
                    falling[k] = !rising[k];
                }
            } else {
                in[RUN] = 0;
            }
        }
        boolean[] over = new boolean[4];
        boolean[] stepped = new boolean[4];
        for (int c = 0; c < 4; c++) {
            int source = counters[c][SOURCE];
            if (source == 1 || source == 2 && over[c - 1] || source == 3 && rising[c]) {
                counters[c][PHASE]++;
                if (counters[c][PHASE] == counters[c][SHARE]) {
                    counters[c][PHASE] = 0;
                    stepped[c] = true;
                    over[c] = stepGoesOver(counters[c]);
                    if (over[c]) counters[c][OVERS]++;
                }
            }
        }
        for (int k = 0; k < 4; k++) {
            int[] by = catchers[k];
            boolean takes = rising[k] && (by[EDGES] == 1 || by[EDGES] == 3)
                || falling[k] && (by[EDGES] == 2 || by[EDGES] == 3);
            if (takes) {
                by[SEEN]++;
                if (by[SEEN] % by[EVERY] == 0) {
                    if (by[READY] == 1) by[MISSED]++;
                    by[VALUE] = counters[by[COUNTER]][COUNT];
                    by[READY] = 1;
                }
            }
        }
        for (int k = 0; k < 4; k++) {
            int[] ch = channels[k];
            int was = ch[LEVEL];
            int count = counters[ch[COUNTER]][COUNT];
            boolean so = stepped[ch[COUNTER]] && count == ch[MARK];
            if (ch[CMODE] == 0) ch[LEVEL] = 0;
            if (ch[CMODE] == 1) ch[LEVEL] = count < ch[MARK] ? 1 : 0;
            if (ch[CMODE] == 2) ch[LEVEL] = count < ch[MARK] ? 0 : 1;
            if (ch[CMODE] == 3 && so) ch[LEVEL] = was == 0 ? 1 : 0;
            if (ch[CMODE] == 4 && so) ch[LEVEL] = 1;
            if (ch[LEVEL] != was) {
                ch[SINCE] = 1;
            } else if (ch[SINCE] < 99) {
                ch[SINCE]++;
            }
        }
        tick++;
        if (tick % period == 0) {
            second = first;
            int now = counters[crossedCounter][COUNT];
            first = how == 0 ? ahead & now : numberOfForm((ahead ^ ahead / 2) & (now ^ now / 2));
        }
        pinsAnew();
    }

    private static boolean stepGoesOver(int[] c) {
        boolean over;
        if (c[MODE] == 0) {
            over = c[COUNT] == c[TOP];
            if (over) waitingTop(c);
            c[COUNT] = over ? 0 : c[COUNT] + 1;
        } else if (c[MODE] == 1) {
            over = c[COUNT] == 0;
            if (over) waitingTop(c);
            c[COUNT] = over ? c[TOP] : c[COUNT] - 1;
        } else {
            boolean atTop = c[WAY] == 1 && c[COUNT] == c[TOP];
            boolean atZero = c[WAY] == 0 && c[COUNT] == 0;
            over = atTop || atZero;
            if (over) c[WAY] = 1 - c[WAY];
            if (atZero) waitingTop(c);
            if (c[WAY] == 1) c[COUNT]++; else c[COUNT]--;
        }
        return over;
    }

    private static void waitingTop(int[] c) {
        if (c[WAITS] != -9) {
            c[TOP] = c[WAITS];
            c[WAITS] = -9;
        }
    }

    private static int numberOfForm(int form) {
        for (int n = 0; n < 16384; n++) {
            if ((n ^ n / 2) == form) return n;
        }
        throw new IllegalStateException("no number has the form " + form);
    }

    private boolean on(int k, int o) {
        int[] ch = channels[k];
        return ch[CMODE] != 0 && !braked && ch[LEVEL] == 1 - o && ch[SINCE] > ch[DEAD];
    }

    private void pinsAnew() {
        for (int p = 0; p < 8; p++) {
            int k = p / 2;
            int o = p % 2;
            boolean turned = (channels[k][POLARITY] / (o + 1)) % 2 == 1;
            boolean safe = (channels[k][SAFE] / (o + 1)) % 2 == 1;
            int level = (braked ? safe : on(k, o) != turned) ? 1 : 0;
            if (level != pins[p]) {
                pins[p] = level;
                record.add(new int[] {tick, p, level});
                if (record.size() > 24) record.remove(0);
            }
        }
    }
}
