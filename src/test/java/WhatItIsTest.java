/** The document's first sentence, part by part. */
public final class WhatItIsTest {
    private static final Due due = new Due("WhatItIsTest");

    public static void main(String[] args) {
        countersThreeWays();
        countersBySource();
        topThatWaits();
        inputsThatAreSteady();
        catchersAtAnEdge();
        channelsThatCompare();
        brakeTillArmed();
        bitByBitOrOneBitAlone();
        recordOfPins();
        due.end();
    }

    private static void countersThreeWays() {
        due.sentence("Interval timers of a chip: counters that go up, down, or both ways");
        ChipTimers x = new ChipTimers();
        for (int c = 0; c < 3; c++) {
            x.counter(c, c, 3, 1);
            x.source(c, Rig.CLOCK);
            x.count(c, 2);
        }
        int[][] wanted = {{3, 1, 3}, {0, 0, 2}, {1, 3, 1}, {2, 2, 0}, {3, 1, 1}};
        for (int[] want : wanted) {
            x.ticks(1);
            int[] got = {x.ofCounter(0, 0), x.ofCounter(1, 0), x.ofCounter(2, 0)};
            due.row("COUNTS of UP, DOWN, BOTH", got, want);
        }
    }

    private static void countersBySource() {
        due.sentence("by the clock, by the one ahead of them or by edges");
        ChipTimers x = Rig.clocked(Rig.UP, 2, 1);
        x.source(1, Rig.AHEAD);
        x.source(2, Rig.EDGE);
        for (int i = 0; i < 12; i++) {
            x.input(2, i / 2 % 2);
            x.ticks(1);
        }
        due.is("12 TICKS: ofCounter(0, 0)", x.ofCounter(0, 0), 0);
        due.is("4 OVERS: ofCounter(1, 0)", x.ofCounter(1, 0), 4);
        due.is("3 rising EDGES: ofCounter(2, 0)", x.ofCounter(2, 0), 3);
    }

    private static void topThatWaits() {
        due.sentence("with a top that waits for its turn");
        ChipTimers x = Rig.clocked(Rig.UP, 3, 1);
        x.top(0, 1);
        due.row("COUNTS", Rig.counts(x, 0, 8), 1, 2, 3, 0, 1, 0, 1, 0);
    }

    private static void inputsThatAreSteady() {
        due.sentence("inputs that are believed when they are steady");
        ChipTimers x = new ChipTimers();
        x.filter(0, 3);
        int[] raw = {1, 1, 0, 1, 1, 1, 0, 0, 1, 0, 0, 0};
        int[] steady = {0, 0, 0, 0, 0, 1, 1, 1, 1, 1, 1, 0};
        for (int i = 0; i < raw.length; i++) {
            x.input(0, raw[i]);
            x.ticks(1);
            due.is("TICK " + (i + 1) + ": ofInput(0, 1)", x.ofInput(0, 1), steady[i]);
        }
    }

    private static void catchersAtAnEdge() {
        due.sentence("catchers that keep what was counted at an edge");
        ChipTimers x = Rig.clocked(Rig.UP, 99, 1);
        x.catcher(0, 0, 1, 1);
        x.ticks(41);
        Rig.turn(x, 0);
        x.ticks(30);
        due.is("taken(0)", x.taken(0), 42);
    }

    private static void channelsThatCompare() {
        due.sentence("channels that compare, two outputs each that are never on both, with a dead time between");
        ChipTimers x = Rig.clocked(Rig.UP, 9, 1);
        x.channel(1, 0, Rig.BELOW, 5);
        x.outputs(1, 2, 0, 0);
        x.ticks(10);
        // COUNT is 1 .. 9, 0; LEVEL is another one at 5 and at 0, and for two TICKS no output is ON then.
        int[] wanted = {0, 1, 1, 1, 0, 0, 2, 2, 2, 0, 0, 1};
        for (int i = 0; i < wanted.length; i++) {
            x.ticks(1);
            due.is("COUNT " + x.ofCounter(0, 0) + ": ofChannel(1, 8)", x.ofChannel(1, 8), wanted[i]);
        }
    }

    private static void brakeTillArmed() {
        due.sentence("a brake that makes all safe till it is armed again");
        ChipTimers x = new ChipTimers();
        for (int k = 0; k < 4; k++) {
            x.channel(k, 0, Rig.BELOW, 1);
            x.outputs(k, 0, 0, k);
        }
        x.ticks(1);
        due.row("pins", Look.pins(x), 1, 0, 1, 0, 1, 0, 1, 0);
        x.brake();
        due.row("SAFE", Look.pins(x), 0, 0, 1, 0, 0, 1, 1, 1);
        x.ticks(50);
        due.row("SAFE still", Look.pins(x), 0, 0, 1, 0, 0, 1, 1, 1);
        x.arm();
        due.row("armed", Look.pins(x), 1, 0, 1, 0, 1, 0, 1, 0);
    }

    private static void bitByBitOrOneBitAlone() {
        due.sentence("a count that another clock samples, bit by bit or so that one bit alone changes");
        int[] wanted = {0, 7};
        for (int how = Rig.PLAIN; how <= Rig.TWISTED; how++) {
            ChipTimers x = Rig.clocked(Rig.UP, 99, 1);
            x.slow(8, 0, how);
            x.ticks(8);
            due.is("from 7 to 8: crossed(0)", x.crossed(0), wanted[how]);
        }
    }

    private static void recordOfPins() {
        due.sentence("a record of pins");
        ChipTimers x = Rig.clocked(Rig.UP, 9, 1);
        x.channel(3, 0, Rig.ABOVE, 4);
        x.ticks(5);
        due.row("first", Look.entry(x, 2), 1, 7, 1);
        due.row("then", Look.entry(x, 1), 4, 6, 1);
        due.row("last", Look.entry(x, 0), 4, 7, 0);
    }
}
