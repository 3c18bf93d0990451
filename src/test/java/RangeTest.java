import java.util.Arrays;

/**
 * Terms, refusals: every call with each of its numbers just below its range, just above it and at both of its
 * ends, in every mixture, so that many of them fit two refusals or more.
 */
public final class RangeTest {
    private static final Due due = new Due("RangeTest");
    private static final int UNKNOWN = -1, OUTSIDE = -2, STATE = -3;

    private interface Call {
        int on(ChipTimers x, int[] p);
    }

    private record Range(int refusal, int least, int most) {
    }

    private static Range part(int most) {
        return new Range(UNKNOWN, 0, most);
    }

    private static Range number(int least, int most) {
        return new Range(OUTSIDE, least, most);
    }

    public static void main(String[] args) {
        counters();
        inputsAndCatchers();
        channels();
        theRest();
        sourceOfEachCounter();
        pairThatIsNotWhole();
        emptyRecord();
        due.end();
    }

    private static void counters() {
        due.sentence("no TOP WAITS (SOURCE stays): 1. UNKNOWN; OUTSIDE.");
        mixtures("counter", (x, p) -> x.counter(p[0], p[1], p[2], p[3]),
            part(3), number(0, 2), number(1, 9999), number(1, 64));
        due.sentence("SOURCE becomes s: what it was. UNKNOWN; OUTSIDE; STATE: s is 2, c is 0.");
        mixtures("source", (x, p) -> x.source(p[0], p[1]), part(3), number(0, 3));
        due.sentence("COUNT becomes v: what it was. UNKNOWN; OUTSIDE: v is not 0 .. TOP.");
        mixtures("count", (x, p) -> x.count(p[0], p[1]), part(3), number(0, 30));
        due.sentence("A TOP WAITS (in place of any): the TOP that there is now. UNKNOWN; OUTSIDE.");
        mixtures("top", (x, p) -> x.top(p[0], p[1]), part(3), number(1, 9999));
        due.sentence("8 the TOP that WAITS (NONE). UNKNOWN; OUTSIDE.");
        mixtures("ofCounter", (x, p) -> x.ofCounter(p[0], p[1]), part(3), number(0, 8));
    }

    private static void inputsAndCatchers() {
        due.sentence("RAW becomes v (0, 1): what it was. UNKNOWN; OUTSIDE.");
        mixtures("input", (x, p) -> x.input(p[0], p[1]), part(3), number(0, 1));
        due.sentence("FILTER becomes f: what it was (RUN stays). UNKNOWN; OUTSIDE.");
        mixtures("filter", (x, p) -> x.filter(p[0], p[1]), part(3), number(1, 8));
        due.sentence("Of an INPUT: 0 RAW, 1 STEADY, 2 RUN, 3 FILTER. UNKNOWN; OUTSIDE.");
        mixtures("ofInput", (x, p) -> x.ofInput(p[0], p[1]), part(3), number(0, 3));
        due.sentence("SEEN, VALUE, READY, MISSED are 0: 1. UNKNOWN: CATCHER, COUNTER; OUTSIDE.");
        mixtures("catcher", (x, p) -> x.catcher(p[0], p[1], p[2], p[3]),
            part(3), part(3), number(0, 3), number(1, 4));
        due.sentence("NONE: it was not READY. UNKNOWN.");
        mixtures("taken", (x, p) -> x.taken(p[0]), part(3));
        due.sentence("4 VALUE, 5 READY, 6 MISSED. UNKNOWN; OUTSIDE.");
        mixtures("ofCatcher", (x, p) -> x.ofCatcher(p[0], p[1]), part(3), number(0, 6));
    }

    private static void channels() {
        due.sentence("LEVEL, SINCE are 0: 1. UNKNOWN: CHANNEL, COUNTER; OUTSIDE.");
        mixtures("channel", (x, p) -> x.channel(p[0], p[1], p[2], p[3]),
            part(3), part(3), number(0, 4), number(0, 9999));
        due.sentence("A CHANNEL gets DEAD, POLARITY, SAFE: 1. UNKNOWN; OUTSIDE.");
        mixtures("outputs", (x, p) -> x.outputs(p[0], p[1], p[2], p[3]),
            part(3), number(0, 20), number(0, 3), number(0, 3));
        due.sentence("8 the set of its outputs that are ON. UNKNOWN; OUTSIDE.");
        mixtures("ofChannel", (x, p) -> x.ofChannel(p[0], p[1]), part(3), number(0, 8));
        due.sentence("The level of PIN p (0 .. 7). OUTSIDE.");
        mixtures("pin", (x, p) -> x.pin(p[0]), number(0, 7));
        due.sentence("NONE: there are not so many. OUTSIDE: k (0 .. 23), what.");
        mixtures("record", (x, p) -> x.record(p[0], p[1]), number(0, 23), number(0, 2));
    }

    private static void theRest() {
        due.sentence("n TICKS (0 .. 400): the number of TICKS then. OUTSIDE.");
        mixtures("ticks", (x, p) -> x.ticks(p[0]), number(0, 400));
        due.sentence("nothing is HELD by it then. UNKNOWN; OUTSIDE.");
        mixtures("holds", (x, p) -> x.holds(p[0], p[1]), part(1), number(0, 1));
        due.sentence("A READ of the low (half 0), high half (1) of a PAIR. UNKNOWN; OUTSIDE; STATE: it is not whole.");
        mixtures("read", (x, p) -> x.read(p[0], p[1]), part(1), number(0, 1));
        due.sentence("and that of the low one. UNKNOWN; STATE: it is not whole.");
        mixtures("wide", (x, p) -> x.wide(p[0]), part(1));
        due.sentence("FIRST, SECOND are 0: 1. UNKNOWN: COUNTER; OUTSIDE.");
        mixtures("slow", (x, p) -> x.slow(p[0], p[1], p[2]), number(2, 16), part(3), number(0, 1));
        due.sentence("the COUNTER that is CROSSED (3), how (4). OUTSIDE.");
        mixtures("crossed", (x, p) -> x.crossed(p[0]), number(0, 4));
        due.sentence("4 CATCHERS that are READY, 5 OVERS of all COUNTERS. OUTSIDE.");
        mixtures("many", (x, p) -> x.many(p[0]), number(0, 5));
    }

    /** All COUNTERS have the TOP 30, both PAIRS are whole and HOLD, so no number within its range is refused. */
    private static ChipTimers even() {
        ChipTimers x = new ChipTimers();
        for (int k = 0; k < 4; k++) {
            x.counter(k, 0, 30, 1);
            x.source(k, k % 2 == 0 ? 1 : 2);
            x.count(k, 10 + k);
            x.filter(k, 2 + k);
            x.input(k, 1);
            x.catcher(k, k, 1, 1);
            x.channel(k, k, 1, 15);
            x.outputs(k, k, k, 3 - k);
        }
        x.slow(3, 2, 0);
        x.holds(0, 1);
        x.holds(1, 1);
        x.ticks(4);
        x.read(0, 0);
        x.read(1, 0);
        x.ticks(25);
        x.top(1, 8);
        return x;
    }

    /** Each number takes four values: below, at the least, at the most, above. */
    private static void mixtures(String name, Call call, Range... ranges) {
        int all = 1 << 2 * ranges.length;
        for (int mixture = 0; mixture < all; mixture++) {
            int[] p = new int[ranges.length];
            int first = 0;
            for (int i = 0; i < ranges.length; i++) {
                Range range = ranges[i];
                p[i] = new int[] {range.least - 1, range.least, range.most, range.most + 1}[mixture >> 2 * i & 3];
                boolean wrong = p[i] < range.least || p[i] > range.most;
                // UNKNOWN stands ahead of OUTSIDE in every line, and is the greater of both.
                if (wrong && (first == 0 || range.refusal > first)) {
                    first = range.refusal;
                }
            }
            String told = name + Arrays.toString(p);
            if (first == 0) {
                due.holds(told + " is not refused", !isRefusal(call.on(even(), p)));
            } else {
                refused(told, call, p, first);
            }
        }
    }

    private static boolean isRefusal(int answer) {
        return answer == UNKNOWN || answer == OUTSIDE || answer == STATE;
    }

    /** Compares with a twin that was not called, at once and some TICKS later. */
    private static void refused(String told, Call call, int[] p, int want) {
        ChipTimers x = even();
        ChipTimers twin = even();
        due.is(told, call.on(x, p), want);
        due.row("all behind " + told, Look.all(x), Look.all(twin));
        x.ticks(9);
        twin.ticks(9);
        due.row("all 9 TICKS behind " + told, Look.all(x), Look.all(twin));
        for (int k = 0; k < 2; k++) {
            due.is("what PAIR " + k + " has HELD behind " + told, x.read(k, 1), twin.read(k, 1));
            due.is("whether PAIR " + k + " HOLDS behind " + told, x.holds(k, 0), 1);
        }
    }

    private static void sourceOfEachCounter() {
        due.sentence("UNKNOWN; OUTSIDE; STATE: s is 2, c is 0");
        for (int c = -1; c <= 4; c++) {
            for (int s = -1; s <= 4; s++) {
                ChipTimers x = new ChipTimers();
                boolean unknown = c < 0 || c > 3;
                boolean outside = s < 0 || s > 3;
                int want = unknown ? UNKNOWN : outside ? OUTSIDE : s == 2 && c == 0 ? STATE : 0;
                due.is("source(" + c + ", " + s + ")", x.source(c, s), want);
                if (!unknown) {
                    due.is("ofCounter(" + c + ", 4)", x.ofCounter(c, 4), want == 0 ? s : 0);
                }
            }
        }
    }

    private static void pairThatIsNotWhole() {
        due.sentence("UNKNOWN; OUTSIDE; STATE: it is not whole");
        for (int k = -1; k <= 2; k++) {
            for (int half = -1; half <= 2; half++) {
                boolean unknown = k < 0 || k > 1;
                boolean outside = half < 0 || half > 1;
                int want = unknown ? UNKNOWN : outside ? OUTSIDE : STATE;
                due.is("read(" + k + ", " + half + ")", new ChipTimers().read(k, half), want);
            }
            due.is("wide(" + k + ")", new ChipTimers().wide(k), k == 0 || k == 1 ? STATE : UNKNOWN);
        }
    }

    private static void emptyRecord() {
        due.sentence("NONE: there are not so many. OUTSIDE: k (0 .. 23), what");
        ChipTimers x = new ChipTimers();
        for (int k : new int[] {-1, 0, 23, 24}) {
            for (int what = -1; what <= 3; what++) {
                boolean outside = k < 0 || k > 23 || what < 0 || what > 2;
                due.is("record(" + k + ", " + what + ")", x.record(k, what), outside ? OUTSIDE : -9);
            }
        }
    }
}
