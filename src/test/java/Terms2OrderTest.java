/** Terms 2, the order: what an earlier part of a TICK makes is seen by each later part of that TICK. */
public final class Terms2OrderTest {
    private static final Due due = new Due("Terms2OrderTest");

    public static void main(String[] args) {
        due.sentence("A TICK, in this order: [..] INPUTS, by number [..] COUNTERS, by number [..] CATCHERS, by number [..] "
            + "CHANNELS, by number [..] The SLOW clock [..] Then PINS are worked out anew.");
        inputsAheadOfCounters();
        inputsAheadOfCatchers();
        countersAheadOfCatchers();
        countersAheadOfChannels();
        countersAheadOfTheSlowClock();
        countersByNumber();
        channelsAheadOfPins();
        allOfOneTickAheadOfTheNext();
        nothingOfATickIsLeft();
        due.end();
    }

    private static void inputsAheadOfCounters() {
        for (int k = 0; k < 4; k++) {
            ChipTimers x = new ChipTimers();
            x.source(k, Rig.EDGE);
            x.input(k, 1);
            x.ticks(1);
            due.is("the EDGE of this TICK is a PULSE of it: ofCounter(" + k + ", 0)", x.ofCounter(k, 0), 1);
        }
    }

    private static void inputsAheadOfCatchers() {
        for (int k = 0; k < 4; k++) {
            ChipTimers x = new ChipTimers();
            x.catcher(k, 0, 1, 1);
            x.input(k, 1);
            x.ticks(1);
            due.is("the EDGE of this TICK is caught in it: ofCatcher(" + k + ", 3)", x.ofCatcher(k, 3), 1);
        }
    }

    private static void countersAheadOfCatchers() {
        for (int c = 0; c < 4; c++) {
            ChipTimers x = new ChipTimers();
            x.source(c, Rig.CLOCK);
            x.count(c, 30);
            x.catcher(0, c, 1, 1);
            x.input(0, 1);
            x.ticks(1);
            due.is("the COUNT behind the STEP of this TICK: taken(0)", x.taken(0), 31);
        }
    }

    private static void countersAheadOfChannels() {
        for (int c = 0; c < 4; c++) {
            ChipTimers x = new ChipTimers();
            x.source(c, Rig.CLOCK);
            x.count(c, 30);
            for (int k = 0; k < 4; k++) {
                x.channel(k, c, Rig.BELOW + k, 31);
            }
            x.ticks(1);
            int[] wanted = {0, 1, 1, 1};
            for (int k = 0; k < 4; k++) {
                due.is("the STEP of this TICK: ofChannel(" + k + ", 3)", x.ofChannel(k, 3), wanted[k]);
            }
        }
    }

    private static void countersAheadOfTheSlowClock() {
        for (int c = 0; c < 4; c++) {
            ChipTimers x = new ChipTimers();
            x.source(c, Rig.CLOCK);
            x.slow(2, c, Rig.PLAIN);
            x.count(c, 6);
            x.ticks(2);
            due.is("7 ahead of this TICK and 8 now: crossed(0)", x.crossed(0), 0);
        }
    }

    private static void countersByNumber() {
        ChipTimers x = Rig.clocked(Rig.UP, 1, 1);
        x.counter(1, Rig.UP, 1, 1);
        x.counter(2, Rig.UP, 1, 1);
        for (int c = 1; c < 4; c++) {
            x.source(c, Rig.AHEAD);
        }
        x.ticks(7);
        due.is("ofCounter(3, 0)", x.ofCounter(3, 0), 0);
        x.ticks(1);
        due.is("an OVER goes through all of them in one TICK: ofCounter(3, 0)", x.ofCounter(3, 0), 1);
    }

    private static void channelsAheadOfPins() {
        for (int k = 0; k < 4; k++) {
            ChipTimers x = Rig.clocked(Rig.UP, 9, 1);
            x.channel(k, 0, Rig.ONCE, 2);
            x.ticks(2);
            due.is("the LEVEL of this TICK: pin(" + 2 * k + ")", x.pin(2 * k), 1);
            due.is("pin(" + (2 * k + 1) + ")", x.pin(2 * k + 1), 0);
            due.row("with the number of this TICK", Look.entry(x, 0), 2, 2 * k + 1, 0);
        }
    }

    /** All parts at once, so that each TICK of one call must be whole ahead of the next. */
    private static void allOfOneTickAheadOfTheNext() {
        for (int n = 1; n <= 60; n++) {
            ChipTimers whole = Rig.busy();
            ChipTimers single = Rig.busy();
            whole.arm();
            single.arm();
            due.is("ticks(" + n + ")", whole.ticks(n), 47 + n);
            for (int i = 0; i < n; i++) {
                single.ticks(1);
            }
            due.row(n + " single TICKS", Look.all(single), Look.all(whole));
        }
    }

    /** An EDGE, an OVER and a STEP are of one TICK, and what asks for them later sees none. */
    private static void nothingOfATickIsLeft() {
        ChipTimers x = Rig.clocked(Rig.UP, 1, 1);
        x.input(1, 1);
        x.ticks(2);
        x.source(0, 0);
        x.source(1, Rig.AHEAD);
        x.catcher(1, 0, 3, 1);
        x.channel(0, 0, Rig.ONCE, 0);
        x.ticks(1);
        due.is("the OVER: ofCounter(1, 0)", x.ofCounter(1, 0), 0);
        due.is("the EDGE: ofCatcher(1, 3)", x.ofCatcher(1, 3), 0);
        due.is("the STEP: ofChannel(0, 3)", x.ofChannel(0, 3), 0);
        x.source(1, Rig.EDGE);
        x.ticks(1);
        due.is("the EDGE: ofCounter(1, 0)", x.ofCounter(1, 0), 0);
    }
}
