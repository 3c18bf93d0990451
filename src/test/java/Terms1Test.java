/** Terms 1: every range that stands there, at both of its ends, and what is so at first. */
public final class Terms1Test {
    private static final Due due = new Due("Terms1Test");

    public static void main(String[] args) {
        ticksFromZero();
        countersZeroToThree();
        countersAtFirst();
        rangeOfMode();
        rangeOfTop();
        rangeOfShare();
        rangeOfSource();
        rangeOfCount();
        rangeOfPhase();
        rangeOfWay();
        oversAreCounted();
        inputsAtFirst();
        rangeOfFilter();
        catchersAtFirst();
        catcherIsAtInputOfItsNumber();
        rangeOfEdges();
        rangeOfEvery();
        channelsAtFirst();
        rangeOfChannelMode();
        rangeOfMark();
        rangeOfDead();
        twoOutputs();
        setsOfOutputs();
        notBrakedAtFirst();
        due.end();
    }

    private static void ticksFromZero() {
        due.sentence("TICKS are counted from 0 on");
        ChipTimers x = new ChipTimers();
        due.is("many(0)", x.many(0), 0);
        due.is("ticks(0)", x.ticks(0), 0);
        due.is("ticks(1)", x.ticks(1), 1);
        due.is("many(0)", x.many(0), 1);
    }

    /** What is set of one COUNTER is told of it and of none of the others. */
    private static void countersZeroToThree() {
        due.sentence("COUNTERS 0 .. 3, each with a MODE [..], a TOP [..], a SHARE [..], a SOURCE");
        for (int c = 0; c < 4; c++) {
            ChipTimers x = new ChipTimers();
            x.counter(c, Rig.BOTH, 4, 3);
            x.source(c, Rig.CLOCK);
            x.top(c, 6);
            x.ticks(17);
            for (int other = 0; other < 4; other++) {
                int[] atFirst = {0, 99, 0, 1, 0, 0, 1, 0, -9};
                int[] gone = {3, 4, 2, 3, 1, 2, 0, 1, 6};
                due.row("COUNTER " + c + " set: ofCounter(" + other + ", ..)", Look.counter(x, other),
                    other == c ? gone : atFirst);
            }
        }
        due.is("ofCounter(4, 0)", new ChipTimers().ofCounter(4, 0), -1);
        due.is("ofCounter(-1, 0)", new ChipTimers().ofCounter(-1, 0), -1);
    }

    private static void countersAtFirst() {
        due.sentence("at first UP, TOP 99, SHARE 1, SOURCE 0, COUNT 0, PHASE 0, WAY 1, OVERS 0, no TOP WAITS");
        for (int c = 0; c < 4; c++) {
            ChipTimers x = new ChipTimers();
            due.row("ofCounter(" + c + ", ..)", Look.counter(x, c), 0, 99, 0, 1, 0, 0, 1, 0, -9);
            x.ticks(200);
            due.row("SOURCE 0 is none: ofCounter(" + c + ", ..)", Look.counter(x, c), 0, 99, 0, 1, 0, 0, 1, 0, -9);
            due.is("source(" + c + ", 1)", x.source(c, 1), 0);
            x.ticks(99);
            due.is("ofCounter(" + c + ", 0)", x.ofCounter(c, 0), 99);
            x.ticks(1);
            due.row("behind TOP 99: ofCounter(" + c + ", ..)", Look.counter(x, c), 0, 99, 0, 1, 1, 0, 1, 1, -9);
        }
    }

    private static void rangeOfMode() {
        due.sentence("a MODE (0 UP, 1 DOWN, 2 BOTH)");
        int[][] counts = {{1, 2, 0, 1, 2, 0}, {2, 1, 0, 2, 1, 0}, {1, 2, 1, 0, 1, 2}};
        for (int mode = 0; mode <= 2; mode++) {
            ChipTimers x = Rig.clocked(mode, 2, 1);
            due.is("ofCounter(0, 2)", x.ofCounter(0, 2), mode);
            due.row("COUNTS of MODE " + mode, Rig.counts(x, 0, 6), counts[mode]);
        }
        due.is("counter(0, -1, 9, 1)", new ChipTimers().counter(0, -1, 9, 1), -2);
        due.is("counter(0, 3, 9, 1)", new ChipTimers().counter(0, 3, 9, 1), -2);
    }

    private static void rangeOfTop() {
        due.sentence("a TOP (1 .. 9999)");
        for (int mode = 0; mode <= 2; mode++) {
            ChipTimers least = Rig.clocked(mode, 1, 1);
            due.is("ofCounter(0, 1)", least.ofCounter(0, 1), 1);
            due.row("COUNTS of MODE " + mode, Rig.counts(least, 0, 5), 1, 0, 1, 0, 1);
        }
        ChipTimers most = Rig.clocked(Rig.UP, 9999, 1);
        due.is("ofCounter(0, 1)", most.ofCounter(0, 1), 9999);
        due.is("count(0, 9998)", most.count(0, 9998), 0);
        due.row("UP", Rig.counts(most, 0, 3), 9999, 0, 1);
        ChipTimers down = Rig.clocked(Rig.DOWN, 9999, 1);
        due.row("DOWN", Rig.counts(down, 0, 2), 9999, 9998);
        ChipTimers both = Rig.clocked(Rig.BOTH, 9999, 1);
        both.count(0, 9998);
        due.row("BOTH", Rig.counts(both, 0, 3), 9999, 9998, 9997);
        ChipTimers waits = Rig.clocked(Rig.DOWN, 1, 1);
        due.is("top(0, 9999)", waits.top(0, 9999), 1);
        due.row("DOWN", Rig.counts(waits, 0, 1), 9999);
        due.is("top(0, 1)", waits.top(0, 1), 9999);
        due.is("ofCounter(0, 8)", waits.ofCounter(0, 8), 1);
        for (int wrong : new int[] {0, 10000}) {
            due.is("counter(0, 0, " + wrong + ", 1)", waits.counter(0, 0, wrong, 1), -2);
            due.is("top(0, " + wrong + ")", waits.top(0, wrong), -2);
        }
        due.row("as it was", Look.counter(waits, 0), 9999, 9999, 1, 1, 1, 0, 1, 1, 1);
    }

    private static void rangeOfShare() {
        due.sentence("a SHARE (1 .. 64)");
        ChipTimers least = Rig.clocked(Rig.UP, 9, 1);
        due.row("each PULSE", Rig.counts(least, 0, 3), 1, 2, 3);
        ChipTimers most = Rig.clocked(Rig.UP, 9, 64);
        due.is("ofCounter(0, 3)", most.ofCounter(0, 3), 64);
        most.ticks(63);
        due.is("ofCounter(0, 0)", most.ofCounter(0, 0), 0);
        most.ticks(1);
        due.is("ofCounter(0, 0)", most.ofCounter(0, 0), 1);
        due.is("counter(0, 0, 9, 0)", most.counter(0, 0, 9, 0), -2);
        due.is("counter(0, 0, 9, 65)", most.counter(0, 0, 9, 65), -2);
        due.is("ofCounter(0, 3)", most.ofCounter(0, 3), 64);
    }

    private static void rangeOfSource() {
        due.sentence("a SOURCE (0 none, 1 the clock, 2 the COUNTER ahead, 3 its INPUT)");
        int[] wanted = {0, 6, 3, 1};
        for (int s = 0; s <= 3; s++) {
            ChipTimers x = Rig.clocked(Rig.UP, 1, 1);
            due.is("source(1, " + s + ")", x.source(1, s), 0);
            due.is("ofCounter(1, 4)", x.ofCounter(1, 4), s);
            x.input(1, 1);
            x.ticks(6);
            due.is("6 TICKS, 3 OVERS ahead, 1 EDGE: ofCounter(1, 0)", x.ofCounter(1, 0), wanted[s]);
        }
        ChipTimers x = new ChipTimers();
        due.is("source(1, -1)", x.source(1, -1), -2);
        due.is("source(1, 4)", x.source(1, 4), -2);
        due.is("ofCounter(1, 4)", x.ofCounter(1, 4), 0);
    }

    private static void rangeOfCount() {
        due.sentence("a COUNT (0 .. TOP)");
        for (int top : new int[] {1, 2, 99, 9999}) {
            ChipTimers x = new ChipTimers();
            x.counter(2, Rig.UP, top, 1);
            due.is("count(2, TOP)", x.count(2, top), 0);
            due.is("count(2, TOP and 1)", x.count(2, top + 1), -2);
            due.is("count(2, -1)", x.count(2, -1), -2);
            due.is("ofCounter(2, 0)", x.ofCounter(2, 0), top);
            due.is("count(2, 0)", x.count(2, 0), top);
            due.is("ofCounter(2, 0)", x.ofCounter(2, 0), 0);
        }
        for (int mode = 0; mode <= 2; mode++) {
            ChipTimers x = Rig.clocked(mode, 5, 1);
            for (int i = 0; i < 120; i++) {
                // TOPS that WAIT go up and down, so that a COUNT left above its TOP would show.
                x.top(0, 1 + i * 7 % 5);
                x.ticks(1);
                int count = x.ofCounter(0, 0);
                due.holds("COUNT is 0 .. TOP in MODE " + mode, count >= 0 && count <= x.ofCounter(0, 1));
            }
        }
    }

    private static void rangeOfPhase() {
        due.sentence("a PHASE (0 .. SHARE less 1)");
        for (int share : new int[] {1, 2, 3, 64}) {
            ChipTimers x = Rig.clocked(Rig.UP, 99, share);
            for (int i = 1; i <= 130; i++) {
                x.ticks(1);
                due.is("SHARE " + share + ", PULSE " + i + ": ofCounter(0, 5)", x.ofCounter(0, 5), i % share);
            }
        }
    }

    private static void rangeOfWay() {
        due.sentence("a WAY (1 up, 0 down)");
        ChipTimers x = Rig.clocked(Rig.BOTH, 3, 1);
        int count = 0;
        for (int i = 0; i < 20; i++) {
            x.ticks(1);
            int now = x.ofCounter(0, 0);
            due.is("from " + count + " to " + now + ": ofCounter(0, 6)", x.ofCounter(0, 6), now > count ? 1 : 0);
            count = now;
        }
        for (int mode = Rig.UP; mode <= Rig.DOWN; mode++) {
            ChipTimers y = Rig.clocked(mode, 3, 1);
            y.ticks(6);
            due.is("only BOTH turns it: ofCounter(0, 6)", y.ofCounter(0, 6), 1);
        }
    }

    private static void oversAreCounted() {
        due.sentence("OVERS (how often it went OVER)");
        int[] wanted = {133, 134, 199};
        for (int mode = 0; mode <= 2; mode++) {
            ChipTimers x = Rig.clocked(mode, 2, 1);
            x.ticks(400);
            due.is("MODE " + mode + ": ofCounter(0, 7)", x.ofCounter(0, 7), wanted[mode]);
        }
    }

    private static void inputsAtFirst() {
        due.sentence("INPUTS 0 .. 3: RAW and STEADY levels (0 at first), a FILTER (1 .. 8; 1 at first), a RUN (0)");
        for (int k = 0; k < 4; k++) {
            ChipTimers x = new ChipTimers();
            due.row("ofInput(" + k + ", ..)", Look.input(x, k), 0, 0, 0, 1);
            due.is("input(" + k + ", 1)", x.input(k, 1), 0);
            x.ticks(1);
            due.row("FILTER 1 believes at once: ofInput(" + k + ", ..)", Look.input(x, k), 1, 1, 0, 1);
        }
    }

    private static void rangeOfFilter() {
        due.sentence("a FILTER (1 .. 8; 1 at first)");
        ChipTimers x = new ChipTimers();
        due.is("filter(3, 8)", x.filter(3, 8), 1);
        due.is("filter(3, 9)", x.filter(3, 9), -2);
        due.is("filter(3, 0)", x.filter(3, 0), -2);
        due.is("ofInput(3, 3)", x.ofInput(3, 3), 8);
        due.is("filter(3, 1)", x.filter(3, 1), 8);
        due.is("ofInput(3, 3)", x.ofInput(3, 3), 1);
    }

    private static void catchersAtFirst() {
        due.sentence("a COUNTER (0 at first), EDGES that it takes ([..] 0 at first), EVERY (1 .. 4; 1), SEEN (0), "
            + "a VALUE (0), READY (0), MISSED (0)");
        for (int k = 0; k < 4; k++) {
            ChipTimers x = Rig.clocked(Rig.UP, 99, 1);
            due.row("ofCatcher(" + k + ", ..)", Look.catcher(x, k), 0, 0, 1, 0, 0, 0, 0);
            Rig.turn(x, k);
            Rig.turn(x, k);
            due.row("no EDGE is taken: ofCatcher(" + k + ", ..)", Look.catcher(x, k), 0, 0, 1, 0, 0, 0, 0);
        }
    }

    private static void catcherIsAtInputOfItsNumber() {
        due.sentence("CATCHERS 0 .. 3 (CATCHER k is at INPUT k)");
        for (int k = 0; k < 4; k++) {
            ChipTimers x = Rig.clocked(Rig.UP, 99, 1);
            for (int other = 0; other < 4; other++) {
                x.catcher(other, 0, 3, 1);
            }
            Rig.turn(x, k);
            for (int other = 0; other < 4; other++) {
                due.is("EDGE of INPUT " + k + ": ofCatcher(" + other + ", 3)", x.ofCatcher(other, 3),
                    other == k ? 1 : 0);
            }
        }
    }

    private static void rangeOfEdges() {
        due.sentence("EDGES that it takes (0 none, 1 rising, 2 falling, 3 both; 0 at first)");
        int[][] seen = {{0, 0, 0, 0}, {1, 1, 2, 2}, {0, 1, 1, 2}, {1, 2, 3, 4}};
        for (int edges = 0; edges <= 3; edges++) {
            ChipTimers x = new ChipTimers();
            due.is("catcher(1, 0, " + edges + ", 1)", x.catcher(1, 0, edges, 1), 1);
            due.is("ofCatcher(1, 1)", x.ofCatcher(1, 1), edges);
            for (int i = 0; i < 4; i++) {
                Rig.turn(x, 1);
                due.is("EDGES " + edges + ", EDGE " + i + ": ofCatcher(1, 3)", x.ofCatcher(1, 3), seen[edges][i]);
            }
        }
        due.is("catcher(1, 0, -1, 1)", new ChipTimers().catcher(1, 0, -1, 1), -2);
        due.is("catcher(1, 0, 4, 1)", new ChipTimers().catcher(1, 0, 4, 1), -2);
    }

    private static void rangeOfEvery() {
        due.sentence("EVERY (1 .. 4; 1)");
        for (int every = 1; every <= 4; every++) {
            ChipTimers x = new ChipTimers();
            due.is("catcher(1, 0, 3, " + every + ")", x.catcher(1, 0, 3, every), 1);
            due.is("ofCatcher(1, 2)", x.ofCatcher(1, 2), every);
        }
        ChipTimers x = new ChipTimers();
        due.is("catcher(1, 0, 3, 0)", x.catcher(1, 0, 3, 0), -2);
        due.is("catcher(1, 0, 3, 5)", x.catcher(1, 0, 3, 5), -2);
        due.row("ofCatcher(1, ..)", Look.catcher(x, 1), 0, 0, 1, 0, 0, 0, 0);
    }

    private static void channelsAtFirst() {
        due.sentence("CHANNELS 0 .. 3: a COUNTER (0), a MODE ([..] 0 at first), a MARK (0 .. 9999; 0), a LEVEL (0), "
            + "SINCE (0), DEAD (0 .. 20; 0), [..] POLARITY and SAFE ([..] 0 at first)");
        for (int k = 0; k < 4; k++) {
            ChipTimers x = Rig.clocked(Rig.UP, 99, 1);
            due.row("ofChannel(" + k + ", ..)", Look.channel(x, k), 0, 0, 0, 0, 0, 0, 0, 0, 0);
            x.ticks(3);
            due.row("OFF: ofChannel(" + k + ", ..)", Look.channel(x, k), 0, 0, 0, 0, 3, 0, 0, 0, 0);
            x.brake();
            due.row("SAFE has none", Look.pins(x), 0, 0, 0, 0, 0, 0, 0, 0);
        }
    }

    private static void rangeOfChannelMode() {
        due.sentence("a MODE (0 OFF, 1 BELOW, 2 ABOVE, 3 TURNING, 4 ONCE; 0 at first)");
        int[][] levels = {{0, 0, 0, 0, 0, 0}, {1, 0, 0, 1, 1, 0}, {0, 1, 1, 0, 0, 1}, {0, 1, 1, 1, 1, 0},
            {0, 1, 1, 1, 1, 1}};
        for (int mode = 0; mode <= 4; mode++) {
            ChipTimers x = Rig.clocked(Rig.UP, 3, 1);
            due.is("channel(3, 0, " + mode + ", 2)", x.channel(3, 0, mode, 2), 1);
            due.is("ofChannel(3, 1)", x.ofChannel(3, 1), mode);
            due.row("LEVELS of MODE " + mode, Rig.levels(x, 3, 6), levels[mode]);
        }
        due.is("channel(3, 0, -1, 2)", new ChipTimers().channel(3, 0, -1, 2), -2);
        due.is("channel(3, 0, 5, 2)", new ChipTimers().channel(3, 0, 5, 2), -2);
    }

    private static void rangeOfMark() {
        due.sentence("a MARK (0 .. 9999; 0)");
        ChipTimers x = Rig.clocked(Rig.UP, 9999, 1);
        due.is("channel(0, 0, 2, 9999)", x.channel(0, 0, 2, 9999), 1);
        due.is("channel(1, 0, 1, 0)", x.channel(1, 0, 1, 0), 1);
        due.is("channel(2, 0, 4, 9999)", x.channel(2, 0, 4, 9999), 1);
        due.is("channel(3, 0, 4, 0)", x.channel(3, 0, 4, 0), 1);
        due.is("channel(0, 0, 2, 10000)", x.channel(0, 0, 2, 10000), -2);
        due.is("channel(0, 0, 2, -1)", x.channel(0, 0, 2, -1), -2);
        due.is("ofChannel(0, 2)", x.ofChannel(0, 2), 9999);
        due.is("ofChannel(1, 2)", x.ofChannel(1, 2), 0);
        x.count(0, 9997);
        int[][] levels = {{0, 0, 0, 0}, {1, 0, 1, 0}, {0, 0, 1, 1}};
        for (int[] wanted : levels) {
            x.ticks(1);
            for (int k = 0; k < 4; k++) {
                due.is("COUNT " + x.ofCounter(0, 0) + ": ofChannel(" + k + ", 3)", x.ofChannel(k, 3), wanted[k]);
            }
        }
    }

    private static void rangeOfDead() {
        due.sentence("DEAD (0 .. 20; 0)");
        ChipTimers x = new ChipTimers();
        due.is("outputs(2, 20, 0, 0)", x.outputs(2, 20, 0, 0), 1);
        due.is("ofChannel(2, 5)", x.ofChannel(2, 5), 20);
        due.is("outputs(2, 21, 0, 0)", x.outputs(2, 21, 0, 0), -2);
        due.is("outputs(2, -1, 0, 0)", x.outputs(2, -1, 0, 0), -2);
        due.is("ofChannel(2, 5)", x.ofChannel(2, 5), 20);
        due.is("outputs(2, 0, 0, 0)", x.outputs(2, 0, 0, 0), 1);
        due.is("ofChannel(2, 5)", x.ofChannel(2, 5), 0);
    }

    private static void twoOutputs() {
        due.sentence("two outputs, 0 and 1");
        ChipTimers x = Rig.clocked(Rig.UP, 1, 1);
        for (int k = 0; k < 4; k++) {
            x.channel(k, 0, Rig.BELOW, 1);
        }
        for (int i = 0; i < 4; i++) {
            x.ticks(1);
            int output = 1 - x.ofChannel(0, 3);
            due.row("LEVEL " + (1 - output), Look.pins(x), 1 - output, output, 1 - output, output, 1 - output, output,
                1 - output, output);
            due.is("one of each CHANNEL: many(2)", x.many(2), 4);
            for (int k = 0; k < 4; k++) {
                due.is("output " + output + ": ofChannel(" + k + ", 8)", x.ofChannel(k, 8), 1 << output);
            }
        }
    }

    private static void setsOfOutputs() {
        due.sentence("POLARITY and SAFE (sets of outputs, 0 .. 3; bit k for output k; 0 at first)");
        for (int set = 0; set <= 3; set++) {
            ChipTimers x = new ChipTimers();
            due.is("outputs(1, 0, " + set + ", 0)", x.outputs(1, 0, set, 0), 1);
            due.is("ofChannel(1, 6)", x.ofChannel(1, 6), set);
            due.row("POLARITY " + set, Look.pins(x), 0, 0, set & 1, set >> 1, 0, 0, 0, 0);
            due.is("outputs(1, 0, 0, " + set + ")", x.outputs(1, 0, 0, set), 1);
            due.is("ofChannel(1, 7)", x.ofChannel(1, 7), set);
            x.brake();
            due.row("SAFE " + set, Look.pins(x), 0, 0, set & 1, set >> 1, 0, 0, 0, 0);
        }
        for (int wrong : new int[] {-1, 4}) {
            ChipTimers x = new ChipTimers();
            due.is("outputs(1, 0, " + wrong + ", 0)", x.outputs(1, 0, wrong, 0), -2);
            due.is("outputs(1, 0, 0, " + wrong + ")", x.outputs(1, 0, 0, wrong), -2);
            due.row("ofChannel(1, ..)", Look.channel(x, 1), 0, 0, 0, 0, 0, 0, 0, 0, 0);
        }
    }

    private static void notBrakedAtFirst() {
        due.sentence("BRAKED: not at first");
        due.is("many(1)", new ChipTimers().many(1), 0);
        due.is("arm()", new ChipTimers().arm(), 0);
        due.is("brake()", new ChipTimers().brake(), 1);
    }
}
