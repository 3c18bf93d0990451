/**
 * Interval timers of a chip: counters, filtered inputs, catchers, comparing channels with a dead
 * time and a brake, wide counts of two counters, a count sampled by a slower clock, and a record of
 * pins. The words in capitals are those of the document.
 */
public final class ChipTimers {
    public static final int UNKNOWN = -1, OUTSIDE = -2, STATE = -3, NONE = -9;

    /** How many COUNTERS there are, and as many INPUTS, CATCHERS and CHANNELS. */
    private static final int EACH = 4;
    private static final int PAIRS = 2;
    private static final int OUTPUTS = 2;
    private static final int PINS = EACH * OUTPUTS;
    private static final int ENTRIES = 24;

    private static final int MOST_TOP = 9999;
    private static final int MOST_SHARE = 64;
    private static final int MOST_FILTER = 8;
    private static final int MOST_EVERY = 4;
    private static final int MOST_DEAD = 20;
    private static final int MOST_SINCE = 99;
    private static final int MOST_TICKS = 400;
    private static final int LEAST_PERIOD = 2;
    private static final int MOST_PERIOD = 16;

    private static final int UP = 0;
    private static final int DOWN = 1;
    private static final int BOTH = 2;

    private static final int BY_NONE = 0;
    private static final int BY_CLOCK = 1;
    private static final int BY_AHEAD = 2;
    private static final int BY_INPUT = 3;

    /** A set of edges has a bit for each kind, so a kind is the set of itself alone. */
    private static final int RISING = 1;
    private static final int FALLING = 2;
    private static final int ANY_EDGE = 3;

    private static final int OFF = 0;
    private static final int BELOW = 1;
    private static final int ABOVE = 2;
    private static final int TURNING = 3;
    private static final int ONCE = 4;

    private static final int PLAIN = 0;
    private static final int TWISTED = 1;

    private final Counter[] counters = new Counter[EACH];
    private final Input[] inputs = new Input[EACH];
    private final Catcher[] catchers = new Catcher[EACH];
    private final Channel[] channels = new Channel[EACH];
    private final Pair[] pairs = new Pair[PAIRS];
    private final Pins pins = new Pins();
    private final SlowClock slowClock = new SlowClock();
    private int tickCount;
    private boolean braked;

    public ChipTimers() {
        for (int k = 0; k < EACH; k++) {
            counters[k] = new Counter();
            inputs[k] = new Input();
            catchers[k] = new Catcher();
            channels[k] = new Channel();
        }
        for (int k = 0; k < PAIRS; k++) {
            pairs[k] = new Pair();
        }
    }

    // ---- 1 counters

    public int counter(int c, int mode, int top, int share) {
        if (!isOneOf(EACH, c)) {
            return UNKNOWN;
        }
        if (!within(mode, UP, BOTH) || !within(top, 1, MOST_TOP) || !within(share, 1, MOST_SHARE)) {
            return OUTSIDE;
        }
        counters[c].setUp(mode, top, share);
        return 1;
    }

    public int source(int c, int s) {
        if (!isOneOf(EACH, c)) {
            return UNKNOWN;
        }
        if (!within(s, BY_NONE, BY_INPUT)) {
            return OUTSIDE;
        }
        if (s == BY_AHEAD && c == 0) {
            return STATE;
        }
        int was = counters[c].source;
        counters[c].source = s;
        return was;
    }

    public int count(int c, int v) {
        if (!isOneOf(EACH, c)) {
            return UNKNOWN;
        }
        if (!within(v, 0, counters[c].top)) {
            return OUTSIDE;
        }
        int was = counters[c].count;
        counters[c].count = v;
        return was;
    }

    public int top(int c, int v) {
        if (!isOneOf(EACH, c)) {
            return UNKNOWN;
        }
        if (!within(v, 1, MOST_TOP)) {
            return OUTSIDE;
        }
        counters[c].waitingTop = v;
        return counters[c].top;
    }

    public int ofCounter(int c, int what) {
        return isOneOf(EACH, c) ? counters[c].tell(what) : UNKNOWN;
    }

    // ---- inputs, catchers

    public int input(int k, int v) {
        if (!isOneOf(EACH, k)) {
            return UNKNOWN;
        }
        if (!within(v, 0, 1)) {
            return OUTSIDE;
        }
        int was = inputs[k].raw;
        inputs[k].raw = v;
        return was;
    }

    public int filter(int k, int f) {
        if (!isOneOf(EACH, k)) {
            return UNKNOWN;
        }
        if (!within(f, 1, MOST_FILTER)) {
            return OUTSIDE;
        }
        int was = inputs[k].filter;
        inputs[k].filter = f;
        return was;
    }

    public int ofInput(int k, int what) {
        return isOneOf(EACH, k) ? inputs[k].tell(what) : UNKNOWN;
    }

    public int catcher(int k, int c, int edges, int every) {
        if (!isOneOf(EACH, k) || !isOneOf(EACH, c)) {
            return UNKNOWN;
        }
        if (!within(edges, 0, ANY_EDGE) || !within(every, 1, MOST_EVERY)) {
            return OUTSIDE;
        }
        catchers[k].setUp(c, edges, every);
        return 1;
    }

    public int taken(int k) {
        return isOneOf(EACH, k) ? catchers[k].handOver() : UNKNOWN;
    }

    public int ofCatcher(int k, int what) {
        return isOneOf(EACH, k) ? catchers[k].tell(what) : UNKNOWN;
    }

    // ---- 2 ticks

    public int ticks(int n) {
        if (!within(n, 0, MOST_TICKS)) {
            return OUTSIDE;
        }
        for (int i = 0; i < n; i++) {
            runTick();
        }
        return tickCount;
    }

    // ---- 3 channels

    public int channel(int k, int c, int mode, int mark) {
        if (!isOneOf(EACH, k) || !isOneOf(EACH, c)) {
            return UNKNOWN;
        }
        if (!within(mode, OFF, ONCE) || !within(mark, 0, MOST_TOP)) {
            return OUTSIDE;
        }
        channels[k].setUp(c, mode, mark);
        workOutPins();
        return 1;
    }

    public int outputs(int k, int dead, int polarity, int safe) {
        if (!isOneOf(EACH, k)) {
            return UNKNOWN;
        }
        if (!within(dead, 0, MOST_DEAD) || !isSetOfOutputs(polarity) || !isSetOfOutputs(safe)) {
            return OUTSIDE;
        }
        channels[k].shapeOutputs(dead, polarity, safe);
        workOutPins();
        return 1;
    }

    public int ofChannel(int k, int what) {
        return isOneOf(EACH, k) ? channels[k].tell(what, braked) : UNKNOWN;
    }

    public int pin(int p) {
        return isOneOf(PINS, p) ? pins.levels[p] : OUTSIDE;
    }

    public int brake() {
        int changed = braked ? 0 : 1;
        braked = true;
        workOutPins();
        return changed;
    }

    public int arm() {
        int changed = braked ? 1 : 0;
        braked = false;
        workOutPins();
        return changed;
    }

    public int record(int k, int what) {
        return isOneOf(ENTRIES, k) ? pins.tell(k, what) : OUTSIDE;
    }

    // ---- pairs

    public int holds(int k, int v) {
        if (!isOneOf(PAIRS, k)) {
            return UNKNOWN;
        }
        if (!within(v, 0, 1)) {
            return OUTSIDE;
        }
        int was = pairs[k].holding;
        pairs[k].holding = v;
        pairs[k].held = NONE;
        return was;
    }

    public int read(int k, int half) {
        if (!isOneOf(PAIRS, k)) {
            return UNKNOWN;
        }
        if (!within(half, 0, 1)) {
            return OUTSIDE;
        }
        if (!isWhole(k)) {
            return STATE;
        }
        int high = counters[2 * k + 1].count;
        if (half == 1) {
            return pairs[k].takeHigh(high);
        }
        pairs[k].held = high;
        return counters[2 * k].count;
    }

    public int wide(int k) {
        if (!isOneOf(PAIRS, k)) {
            return UNKNOWN;
        }
        if (!isWhole(k)) {
            return STATE;
        }
        Counter low = counters[2 * k];
        Counter high = counters[2 * k + 1];
        return high.count * (low.top + 1) + low.count;
    }

    // ---- 4 the other clock

    public int slow(int period, int c, int how) {
        if (!isOneOf(EACH, c)) {
            return UNKNOWN;
        }
        if (!within(period, LEAST_PERIOD, MOST_PERIOD) || !within(how, PLAIN, TWISTED)) {
            return OUTSIDE;
        }
        slowClock.setUp(period, c, how);
        return 1;
    }

    public int crossed(int what) {
        return slowClock.tell(what);
    }

    public int many(int what) {
        switch (what) {
            case 0:
                return tickCount;
            case 1:
                return braked ? 1 : 0;
            case 2:
                return outputsOn();
            case 3:
                return pins.entries;
            case 4:
                return catchersReady();
            case 5:
                return oversOfAll();
            default:
                return OUTSIDE;
        }
    }

    // ---- the course of a tick

    private void runTick() {
        tickCount++;
        int ahead = counters[slowClock.counter].count;
        for (int k = 0; k < EACH; k++) {
            inputs[k].look();
        }
        for (int c = 0; c < EACH; c++) {
            counters[c].pass(hasPulse(c));
        }
        for (int k = 0; k < EACH; k++) {
            catchers[k].notice(inputs[k].edge, counters[catchers[k].counter].count);
        }
        for (int k = 0; k < EACH; k++) {
            channels[k].follow(counters[channels[k].counter]);
        }
        if (tickCount % slowClock.period == 0) {
            slowClock.sample(ahead, counters[slowClock.counter].count);
        }
        workOutPins();
    }

    private boolean hasPulse(int c) {
        switch (counters[c].source) {
            case BY_CLOCK:
                return true;
            case BY_AHEAD:
                return c > 0 && counters[c - 1].wentOver;
            case BY_INPUT:
                return inputs[c].edge == RISING;
            default:
                return false;
        }
    }

    private void workOutPins() {
        for (int k = 0; k < EACH; k++) {
            for (int o = 0; o < OUTPUTS; o++) {
                pins.drive(2 * k + o, channels[k].pinLevel(o, braked), tickCount);
            }
        }
    }

    // ---- what is asked of several

    private boolean isWhole(int pair) {
        Counter low = counters[2 * pair];
        Counter high = counters[2 * pair + 1];
        return high.source == BY_AHEAD && high.share == 1 && high.mode == UP && low.mode == UP;
    }

    private int outputsOn() {
        int sum = 0;
        for (int k = 0; k < EACH; k++) {
            sum += Integer.bitCount(channels[k].outputsOn(braked));
        }
        return sum;
    }

    private int catchersReady() {
        int sum = 0;
        for (int k = 0; k < EACH; k++) {
            sum += catchers[k].ready;
        }
        return sum;
    }

    private int oversOfAll() {
        int sum = 0;
        for (int c = 0; c < EACH; c++) {
            sum += counters[c].overs;
        }
        return sum;
    }

    private static boolean isOneOf(int size, int number) {
        return number >= 0 && number < size;
    }

    private static boolean within(int value, int least, int most) {
        return value >= least && value <= most;
    }

    private static boolean isSetOfOutputs(int set) {
        return within(set, 0, (1 << OUTPUTS) - 1);
    }

    private static final class Counter {
        int mode = UP;
        int top = 99;
        int share = 1;
        int source = BY_NONE;
        int count;
        int phase;
        int way = 1;
        int overs;
        int waitingTop = NONE;
        /** Both tell of the newest TICK alone: the COUNTER behind and the CHANNELS look at them. */
        boolean wentOver;
        boolean stepped;

        void setUp(int newMode, int newTop, int newShare) {
            mode = newMode;
            top = newTop;
            share = newShare;
            count = 0;
            phase = 0;
            way = 1;
            overs = 0;
            waitingTop = NONE;
        }

        void pass(boolean pulse) {
            wentOver = false;
            stepped = false;
            if (pulse) {
                phase++;
                if (phase == share) {
                    phase = 0;
                    step();
                }
            }
        }

        private void step() {
            stepped = true;
            switch (mode) {
                case UP:
                    stepUp();
                    break;
                case DOWN:
                    stepDown();
                    break;
                default:
                    stepBothWays();
                    break;
            }
        }

        private void stepUp() {
            if (count == top) {
                goOver();
                takeWaitingTop();
                count = 0;
            } else {
                count++;
            }
        }

        private void stepDown() {
            if (count == 0) {
                goOver();
                takeWaitingTop();
                count = top;
            } else {
                count--;
            }
        }

        private void stepBothWays() {
            if (way == 1 && count == top) {
                goOver();
                way = 0;
            } else if (way == 0 && count == 0) {
                goOver();
                way = 1;
                takeWaitingTop();
            }
            count += way == 1 ? 1 : -1;
        }

        private void goOver() {
            wentOver = true;
            overs++;
        }

        private void takeWaitingTop() {
            if (waitingTop != NONE) {
                top = waitingTop;
                waitingTop = NONE;
            }
        }

        int tell(int what) {
            switch (what) {
                case 0:
                    return count;
                case 1:
                    return top;
                case 2:
                    return mode;
                case 3:
                    return share;
                case 4:
                    return source;
                case 5:
                    return phase;
                case 6:
                    return way;
                case 7:
                    return overs;
                case 8:
                    return waitingTop;
                default:
                    return OUTSIDE;
            }
        }
    }

    private static final class Input {
        int raw;
        int steady;
        int run;
        int filter = 1;
        /** The EDGE of the newest TICK, 0 if it had none. */
        int edge;

        void look() {
            edge = 0;
            if (raw == steady) {
                run = 0;
                return;
            }
            run++;
            if (run >= filter) {
                steady = raw;
                run = 0;
                edge = steady == 1 ? RISING : FALLING;
            }
        }

        int tell(int what) {
            switch (what) {
                case 0:
                    return raw;
                case 1:
                    return steady;
                case 2:
                    return run;
                case 3:
                    return filter;
                default:
                    return OUTSIDE;
            }
        }
    }

    private static final class Catcher {
        int counter;
        int edges;
        int every = 1;
        int seen;
        int value;
        int ready;
        int missed;

        void setUp(int newCounter, int newEdges, int newEvery) {
            counter = newCounter;
            edges = newEdges;
            every = newEvery;
            seen = 0;
            value = 0;
            ready = 0;
            missed = 0;
        }

        void notice(int edge, int count) {
            if ((edges & edge) == 0) {
                return;
            }
            seen++;
            if (seen % every == 0) {
                missed += ready;
                value = count;
                ready = 1;
            }
        }

        int handOver() {
            int answer = ready == 1 ? value : NONE;
            ready = 0;
            return answer;
        }

        int tell(int what) {
            switch (what) {
                case 0:
                    return counter;
                case 1:
                    return edges;
                case 2:
                    return every;
                case 3:
                    return seen;
                case 4:
                    return value;
                case 5:
                    return ready;
                case 6:
                    return missed;
                default:
                    return OUTSIDE;
            }
        }
    }

    private static final class Channel {
        int counter;
        int mode = OFF;
        int mark;
        int level;
        int since;
        int dead;
        int polarity;
        int safe;

        void setUp(int newCounter, int newMode, int newMark) {
            counter = newCounter;
            mode = newMode;
            mark = newMark;
            level = 0;
            since = 0;
        }

        void shapeOutputs(int newDead, int newPolarity, int newSafe) {
            dead = newDead;
            polarity = newPolarity;
            safe = newSafe;
        }

        void follow(Counter by) {
            int was = level;
            level = nextLevel(by);
            since = level == was ? Math.min(since + 1, MOST_SINCE) : 1;
        }

        private int nextLevel(Counter by) {
            boolean reached = by.stepped && by.count == mark;
            switch (mode) {
                case BELOW:
                    return by.count < mark ? 1 : 0;
                case ABOVE:
                    return by.count >= mark ? 1 : 0;
                case TURNING:
                    return reached ? 1 - level : level;
                case ONCE:
                    return reached ? 1 : level;
                default:
                    return 0;
            }
        }

        /** At most one output: LEVEL has only one value, and the DEAD time is counted from its change. */
        int outputsOn(boolean braked) {
            if (mode == OFF || braked || since <= dead) {
                return 0;
            }
            return level == 1 ? 1 : 2;
        }

        int pinLevel(int output, boolean braked) {
            int set = braked ? safe : outputsOn(false) ^ polarity;
            return (set >> output) & 1;
        }

        int tell(int what, boolean braked) {
            switch (what) {
                case 0:
                    return counter;
                case 1:
                    return mode;
                case 2:
                    return mark;
                case 3:
                    return level;
                case 4:
                    return since;
                case 5:
                    return dead;
                case 6:
                    return polarity;
                case 7:
                    return safe;
                case 8:
                    return outputsOn(braked);
                default:
                    return OUTSIDE;
            }
        }
    }

    /** The levels of the PINS, and the RECORD of their changes as a ring that is written over. */
    private static final class Pins {
        final int[] levels = new int[PINS];
        final int[] entryTicks = new int[ENTRIES];
        final int[] entryPins = new int[ENTRIES];
        final int[] entryLevels = new int[ENTRIES];
        int entries;
        int next;

        void drive(int pin, int level, int tick) {
            if (levels[pin] == level) {
                return;
            }
            levels[pin] = level;
            entryTicks[next] = tick;
            entryPins[next] = pin;
            entryLevels[next] = level;
            next = (next + 1) % ENTRIES;
            entries = Math.min(entries + 1, ENTRIES);
        }

        int tell(int back, int what) {
            if (!within(what, 0, 2)) {
                return OUTSIDE;
            }
            if (back >= entries) {
                return NONE;
            }
            int at = (next + ENTRIES - 1 - back) % ENTRIES;
            if (what == 0) {
                return entryTicks[at];
            }
            return what == 1 ? entryPins[at] : entryLevels[at];
        }
    }

    private static final class Pair {
        int holding;
        /** COUNTS are never below 0, so NONE says that nothing is HELD. */
        int held = NONE;

        int takeHigh(int high) {
            if (holding == 0 || held == NONE) {
                return high;
            }
            int answer = held;
            held = NONE;
            return answer;
        }
    }

    private static final class SlowClock {
        int period = 4;
        int counter;
        int how = PLAIN;
        int first;
        int second;

        void setUp(int newPeriod, int newCounter, int newHow) {
            period = newPeriod;
            counter = newCounter;
            how = newHow;
            first = 0;
            second = 0;
        }

        void sample(int ahead, int now) {
            second = first;
            first = how == TWISTED ? untwist(twist(ahead) & twist(now)) : ahead & now;
        }

        private static int twist(int n) {
            return n ^ (n >> 1);
        }

        /** Each bit is the parity of all bits from it upwards; four doublings reach across 16 bits. */
        private static int untwist(int form) {
            int n = form ^ (form >> 1);
            n ^= n >> 2;
            n ^= n >> 4;
            n ^= n >> 8;
            return n;
        }

        int tell(int what) {
            switch (what) {
                case 0:
                    return first;
                case 1:
                    return second;
                case 2:
                    return period;
                case 3:
                    return counter;
                case 4:
                    return how;
                default:
                    return OUTSIDE;
            }
        }
    }
}
