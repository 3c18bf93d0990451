/** Terms 2, INPUTS and CATCHERS: RUNS that come to FILTER or do not, EDGES, and what a CATCHER makes of them. */
public final class Terms2InputsTest {
    private static final Due due = new Due("Terms2InputsTest");

    public static void main(String[] args) {
        runComesToFilter();
        runIsAboveFilter();
        filterItselfIsNoTick();
        steadyAgainBeforeFilter();
        backAndForthWithoutATick();
        risingElseFalling();
        edgeIsOfOneTick();
        inputsApart();
        seenDividedByEvery();
        readyAlready();
        notReadyAnyMore();
        missedOnlyWhenCaught();
        valueIsTheCountNow();
        everyCatcherItsOwnCounter();
        due.end();
    }

    private static void runComesToFilter() {
        due.sentence("if RAW is other than STEADY, RUN is one more, and if it is FILTER or more then, STEADY is RAW, "
            + "RUN 0");
        for (int f = 1; f <= 8; f++) {
            ChipTimers x = new ChipTimers();
            x.filter(1, f);
            for (int raw = 1; raw >= 0; raw--) {
                x.input(1, raw);
                for (int run = 1; run < f; run++) {
                    x.ticks(1);
                    due.row("FILTER " + f + ", RUN " + run, Look.input(x, 1), raw, 1 - raw, run, f);
                }
                x.ticks(1);
                due.row("FILTER " + f + ", the last TICK", Look.input(x, 1), raw, raw, 0, f);
                x.ticks(2);
                due.row("FILTER " + f + ", behind it", Look.input(x, 1), raw, raw, 0, f);
            }
        }
    }

    /** RUN stands at 5, and the next TICK makes it 6. */
    private static void runIsAboveFilter() {
        due.sentence("if it is FILTER or more then");
        for (int f = 1; f <= 8; f++) {
            ChipTimers x = new ChipTimers();
            x.filter(2, 8);
            x.input(2, 1);
            x.ticks(5);
            x.filter(2, f);
            x.ticks(1);
            int[] believed = {1, 1, 0, f};
            int[] not = {1, 0, 6, f};
            due.row("RUN 6, FILTER " + f, Look.input(x, 2), f <= 6 ? believed : not);
        }
    }

    private static void filterItselfIsNoTick() {
        due.sentence("FILTER becomes f: what it was (RUN stays)");
        ChipTimers x = new ChipTimers();
        x.catcher(2, 0, 3, 1);
        x.filter(2, 8);
        x.input(2, 1);
        x.ticks(7);
        due.is("filter(2, 1)", x.filter(2, 1), 8);
        due.row("ofInput(2, ..)", Look.input(x, 2), 1, 0, 7, 1);
        due.is("filter(2, 8)", x.filter(2, 8), 1);
        due.row("ofInput(2, ..)", Look.input(x, 2), 1, 0, 7, 8);
        due.is("no EDGE: ofCatcher(2, 3)", x.ofCatcher(2, 3), 0);
        x.ticks(1);
        due.row("ofInput(2, ..)", Look.input(x, 2), 1, 1, 0, 8);
        due.is("an EDGE: ofCatcher(2, 3)", x.ofCatcher(2, 3), 1);
    }

    private static void steadyAgainBeforeFilter() {
        due.sentence("if RAW is STEADY, RUN is 0");
        for (int f = 2; f <= 8; f++) {
            ChipTimers x = new ChipTimers();
            x.catcher(0, 0, 3, 1);
            x.filter(0, f);
            x.input(0, 1);
            x.ticks(f - 1);
            due.row("FILTER " + f + ", one less", Look.input(x, 0), 1, 0, f - 1, f);
            x.input(0, 0);
            x.ticks(1);
            due.row("FILTER " + f + ", STEADY again", Look.input(x, 0), 0, 0, 0, f);
            x.input(0, 1);
            x.ticks(f - 1);
            due.row("FILTER " + f + ", from 0 on", Look.input(x, 0), 1, 0, f - 1, f);
            due.is("no EDGE: ofCatcher(0, 3)", x.ofCatcher(0, 3), 0);
            x.ticks(1);
            due.row("FILTER " + f, Look.input(x, 0), 1, 1, 0, f);
            due.is("one EDGE: ofCatcher(0, 3)", x.ofCatcher(0, 3), 1);
        }
    }

    private static void backAndForthWithoutATick() {
        due.sentence("RAW becomes v (0, 1): what it was");
        ChipTimers x = new ChipTimers();
        x.filter(0, 3);
        x.input(0, 1);
        x.ticks(2);
        due.is("input(0, 0)", x.input(0, 0), 1);
        due.is("input(0, 1)", x.input(0, 1), 0);
        due.row("RUN stays: ofInput(0, ..)", Look.input(x, 0), 1, 0, 2, 3);
        x.ticks(1);
        due.row("ofInput(0, ..)", Look.input(x, 0), 1, 1, 0, 3);
    }

    private static void risingElseFalling() {
        due.sentence("an EDGE in this TICK (rising, if STEADY is 1 now; else falling)");
        ChipTimers x = new ChipTimers();
        x.source(1, Rig.EDGE);
        x.catcher(1, 1, 2, 1);
        for (int i = 1; i <= 3; i++) {
            Rig.turn(x, 1);
            due.is("rising " + i + ": ofCounter(1, 0)", x.ofCounter(1, 0), i);
            due.is("rising " + i + ": ofCatcher(1, 3)", x.ofCatcher(1, 3), i - 1);
            Rig.turn(x, 1);
            due.is("falling " + i + ": ofCounter(1, 0)", x.ofCounter(1, 0), i);
            due.is("falling " + i + ": ofCatcher(1, 3)", x.ofCatcher(1, 3), i);
        }
    }

    private static void edgeIsOfOneTick() {
        due.sentence("with an EDGE of its INPUT in this TICK that it takes");
        for (int edges = 1; edges <= 3; edges++) {
            ChipTimers x = new ChipTimers();
            x.source(3, Rig.EDGE);
            x.catcher(3, 0, edges, 1);
            x.input(3, 1);
            x.ticks(400);
            x.input(3, 0);
            x.ticks(400);
            due.is("EDGES " + edges + ": ofCatcher(3, 3)", x.ofCatcher(3, 3), edges == 3 ? 2 : 1);
            due.is("ofCounter(3, 0)", x.ofCounter(3, 0), 1);
        }
    }

    private static void inputsApart() {
        due.sentence("INPUTS, by number");
        ChipTimers x = new ChipTimers();
        for (int k = 0; k < 4; k++) {
            x.filter(k, k + 1);
            x.input(k, 1);
        }
        for (int tick = 1; tick <= 5; tick++) {
            x.ticks(1);
            for (int k = 0; k < 4; k++) {
                int steady = tick > k ? 1 : 0;
                due.row("TICK " + tick + ", INPUT " + k, Look.input(x, k), 1, steady, steady == 1 ? 0 : tick, k + 1);
            }
        }
    }

    private static void seenDividedByEvery() {
        due.sentence("SEEN is one more; if that can be divided by EVERY");
        for (int every = 1; every <= 4; every++) {
            ChipTimers x = Rig.clocked(Rig.UP, 99, 1);
            x.catcher(0, 0, 3, every);
            for (int seen = 1; seen <= 9; seen++) {
                Rig.turn(x, 0);
                // The COUNT goes with the EDGES here, so VALUE is the last SEEN that was caught.
                int caught = seen / every;
                due.row("EVERY " + every + ", SEEN " + seen, Look.catcher(x, 0), 0, 3, every, seen, caught * every,
                    caught > 0 ? 1 : 0, Math.max(0, caught - 1));
            }
        }
    }

    private static void readyAlready() {
        due.sentence("MISSED is one more, if it is READY; VALUE is the COUNT of its COUNTER, it is READY");
        ChipTimers x = Rig.clocked(Rig.UP, 99, 1);
        x.catcher(1, 0, 3, 1);
        for (int i = 1; i <= 5; i++) {
            Rig.turn(x, 1);
            due.row("EDGE " + i, Look.catcher(x, 1), 0, 3, 1, i, i, 1, i - 1);
        }
        due.is("the newest: taken(1)", x.taken(1), 5);
        due.row("ofCatcher(1, ..)", Look.catcher(x, 1), 0, 3, 1, 5, 5, 0, 4);
    }

    private static void notReadyAnyMore() {
        due.sentence("VALUE of a CATCHER, which is not READY any more; NONE: it was not READY");
        ChipTimers x = Rig.clocked(Rig.UP, 99, 1);
        x.catcher(1, 0, 3, 1);
        due.is("nothing yet: taken(1)", x.taken(1), -9);
        for (int i = 1; i <= 3; i++) {
            Rig.turn(x, 1);
            due.is("taken(1)", x.taken(1), i);
            due.is("twice: taken(1)", x.taken(1), -9);
            due.row("nothing MISSED", Look.catcher(x, 1), 0, 3, 1, i, i, 0, 0);
        }
    }

    private static void missedOnlyWhenCaught() {
        due.sentence("if that can be divided by EVERY: MISSED is one more, if it is READY");
        ChipTimers x = Rig.clocked(Rig.UP, 99, 1);
        x.catcher(1, 0, 3, 2);
        Rig.turn(x, 1);
        Rig.turn(x, 1);
        due.row("READY", Look.catcher(x, 1), 0, 3, 2, 2, 2, 1, 0);
        Rig.turn(x, 1);
        due.row("an EDGE that is not caught misses nothing", Look.catcher(x, 1), 0, 3, 2, 3, 2, 1, 0);
        Rig.turn(x, 1);
        due.row("one that is", Look.catcher(x, 1), 0, 3, 2, 4, 4, 1, 1);
    }

    private static void valueIsTheCountNow() {
        due.sentence("VALUE is the COUNT of its COUNTER");
        ChipTimers up = Rig.clocked(Rig.UP, 7, 1);
        up.catcher(2, 0, 1, 1);
        up.count(0, 7);
        Rig.turn(up, 2);
        due.is("UP, OVER in this TICK: taken(2)", up.taken(2), 0);
        ChipTimers down = Rig.clocked(Rig.DOWN, 7, 1);
        down.catcher(2, 0, 1, 1);
        down.top(0, 9999);
        Rig.turn(down, 2);
        due.is("DOWN, OVER to a TOP that WAITED: taken(2)", down.taken(2), 9999);
        ChipTimers kept = Rig.clocked(Rig.UP, 99, 1);
        kept.catcher(2, 0, 1, 1);
        Rig.turn(kept, 2);
        kept.ticks(10);
        kept.count(0, 50);
        kept.counter(0, Rig.UP, 9, 1);
        due.is("kept while the COUNTER goes on: taken(2)", kept.taken(2), 1);
    }

    private static void everyCatcherItsOwnCounter() {
        due.sentence("CATCHERS, by number");
        ChipTimers x = new ChipTimers();
        for (int k = 0; k < 4; k++) {
            x.count(k, 20 + k);
            x.catcher(k, 3 - k, 1, 1);
            x.input(k, 1);
        }
        x.ticks(1);
        for (int k = 0; k < 4; k++) {
            due.is("taken(" + k + ")", x.taken(k), 23 - k);
        }
    }
}
