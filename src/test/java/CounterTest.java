/** Promises 2 to 6, and how COUNTERS go in a TICK. */
public final class CounterTest {
    private static final Due due = new Due("CounterTest");

    public static void main(String[] args) {
        counterStartsAnew();
        edgesOfCounter();
        sourceTellsWhatItWas();
        countIsBoundByTop();
        topWaits();
        ofCounterRefuses();
        upGoesOver();
        downGoesOver();
        bothGoesOverAtBothEnds();
        bothFromWhereItIsPut();
        leastTop();
        shareDividesPulses();
        chainOfCounters();
        pulsesByInput();
        waitingTopIsTakenInItsTurn();
        due.end();
    }

    private static void counterStartsAnew() {
        ChipTimers x = new ChipTimers();
        x.counter(1, 2, 3, 2);
        x.source(1, 1);
        x.ticks(9);
        x.top(1, 7);
        due.row("ofCounter(1, ..)", Look.counter(x, 1), 2, 3, 2, 2, 1, 1, 0, 1, 7);
        due.is("counter(1, 0, 5, 4)", x.counter(1, 0, 5, 4), 1);
        due.row("ofCounter(1, ..)", Look.counter(x, 1), 0, 5, 0, 4, 1, 0, 1, 0, -9);
        due.row("ofCounter(0, ..)", Look.counter(x, 0), 0, 99, 0, 1, 0, 0, 1, 0, -9);
        x.ticks(1);
        due.is("counter(1, 1, 5, 4)", x.counter(1, 1, 5, 4), 1);
        due.row("DOWN starts at 0, too", Look.counter(x, 1), 0, 5, 1, 4, 1, 0, 1, 0, -9);
    }

    private static void edgesOfCounter() {
        ChipTimers x = new ChipTimers();
        due.is("counter(3, 2, 9999, 64)", x.counter(3, 2, 9999, 64), 1);
        due.row("ofCounter(3, ..)", Look.counter(x, 3), 0, 9999, 2, 64, 0, 0, 1, 0, -9);
        due.is("counter(0, 0, 1, 1)", x.counter(0, 0, 1, 1), 1);
        due.is("counter(4, 0, 1, 1)", x.counter(4, 0, 1, 1), -1);
        due.is("counter(-1, 0, 1, 1)", x.counter(-1, 0, 1, 1), -1);
        due.is("counter(4, 3, 0, 0)", x.counter(4, 3, 0, 0), -1);
        due.is("counter(0, 3, 1, 1)", x.counter(0, 3, 1, 1), -2);
        due.is("counter(0, -1, 1, 1)", x.counter(0, -1, 1, 1), -2);
        due.is("counter(0, 0, 0, 1)", x.counter(0, 0, 0, 1), -2);
        due.is("counter(0, 0, 10000, 1)", x.counter(0, 0, 10000, 1), -2);
        due.is("counter(0, 0, 1, 0)", x.counter(0, 0, 1, 0), -2);
        due.is("counter(0, 0, 1, 65)", x.counter(0, 0, 1, 65), -2);
    }

    private static void sourceTellsWhatItWas() {
        ChipTimers x = new ChipTimers();
        due.is("source(1, 2)", x.source(1, 2), 0);
        due.is("source(1, 3)", x.source(1, 3), 2);
        due.is("source(1, 1)", x.source(1, 1), 3);
        due.is("source(1, 0)", x.source(1, 0), 1);
        due.is("source(0, 2)", x.source(0, 2), -3);
        due.is("source(0, 3)", x.source(0, 3), 0);
        due.is("source(0, 4)", x.source(0, 4), -2);
        due.is("source(0, -1)", x.source(0, -1), -2);
        due.is("source(4, 2)", x.source(4, 2), -1);
        due.is("source(-1, 9)", x.source(-1, 9), -1);
        due.is("ofCounter(0, 4)", x.ofCounter(0, 4), 3);
        x.counter(2, 0, 9, 3);
        x.source(2, 1);
        x.ticks(5);
        x.source(2, 0);
        x.ticks(1);
        due.row("source() leaves COUNT and PHASE", Look.counter(x, 2), 1, 9, 0, 3, 0, 2, 1, 0, -9);
    }

    private static void countIsBoundByTop() {
        ChipTimers x = new ChipTimers();
        x.counter(0, 0, 4, 3);
        x.source(0, 1);
        x.ticks(2);
        due.is("count(0, 4)", x.count(0, 4), 0);
        due.is("count(0, 5)", x.count(0, 5), -2);
        due.is("count(0, -1)", x.count(0, -1), -2);
        due.is("count(4, 0)", x.count(4, 0), -1);
        due.is("count(-1, -1)", x.count(-1, -1), -1);
        due.row("ofCounter(0, ..)", Look.counter(x, 0), 4, 4, 0, 3, 1, 2, 1, 0, -9);
        due.is("count(0, 0)", x.count(0, 0), 4);
        x.top(0, 9);
        due.is("a TOP that only WAITS is no bound: count(0, 5)", x.count(0, 5), -2);
        x.top(0, 1);
        due.is("a TOP that only WAITS is no bound: count(0, 3)", x.count(0, 3), 0);
    }

    private static void topWaits() {
        ChipTimers x = new ChipTimers();
        x.counter(2, 0, 4, 1);
        due.is("top(2, 9999)", x.top(2, 9999), 4);
        due.is("ofCounter(2, 8)", x.ofCounter(2, 8), 9999);
        due.is("top(2, 1)", x.top(2, 1), 4);
        due.row("ofCounter(2, ..)", Look.counter(x, 2), 0, 4, 0, 1, 0, 0, 1, 0, 1);
        due.is("top(2, 0)", x.top(2, 0), -2);
        due.is("top(2, 10000)", x.top(2, 10000), -2);
        due.is("top(4, 1)", x.top(4, 1), -1);
        due.is("top(-1, 0)", x.top(-1, 0), -1);
        due.is("ofCounter(2, 8)", x.ofCounter(2, 8), 1);
        due.is("the TOP that there is may WAIT: top(2, 4)", x.top(2, 4), 4);
        due.is("ofCounter(2, 8)", x.ofCounter(2, 8), 4);
    }

    private static void ofCounterRefuses() {
        ChipTimers x = new ChipTimers();
        due.is("ofCounter(4, 0)", x.ofCounter(4, 0), -1);
        due.is("ofCounter(-1, 9)", x.ofCounter(-1, 9), -1);
        due.is("ofCounter(0, 9)", x.ofCounter(0, 9), -2);
        due.is("ofCounter(0, -1)", x.ofCounter(0, -1), -2);
    }

    private static void upGoesOver() {
        ChipTimers x = Rig.clocked(0, 2, 1);
        due.row("UP", Rig.counts(x, 0, 7), 1, 2, 0, 1, 2, 0, 1);
        due.row("ofCounter(0, ..)", Look.counter(x, 0), 1, 2, 0, 1, 1, 0, 1, 2, -9);
    }

    private static void downGoesOver() {
        ChipTimers x = Rig.clocked(1, 2, 1);
        due.row("DOWN", Rig.counts(x, 0, 7), 2, 1, 0, 2, 1, 0, 2);
        due.row("ofCounter(0, ..)", Look.counter(x, 0), 2, 2, 1, 1, 1, 0, 1, 3, -9);
    }

    private static void bothGoesOverAtBothEnds() {
        ChipTimers x = Rig.clocked(2, 3, 1);
        due.row("BOTH", Rig.counts(x, 0, 3), 1, 2, 3);
        due.row("at TOP", Look.counter(x, 0), 3, 3, 2, 1, 1, 0, 1, 0, -9);
        due.row("BOTH", Rig.counts(x, 0, 1), 2);
        due.row("behind TOP", Look.counter(x, 0), 2, 3, 2, 1, 1, 0, 0, 1, -9);
        due.row("BOTH", Rig.counts(x, 0, 2), 1, 0);
        due.row("at 0", Look.counter(x, 0), 0, 3, 2, 1, 1, 0, 0, 1, -9);
        due.row("BOTH", Rig.counts(x, 0, 4), 1, 2, 3, 2);
        due.row("behind both", Look.counter(x, 0), 2, 3, 2, 1, 1, 0, 0, 3, -9);
    }

    private static void bothFromWhereItIsPut() {
        ChipTimers x = Rig.clocked(2, 3, 1);
        x.count(0, 3);
        due.row("BOTH, put at TOP with WAY 1", Rig.counts(x, 0, 1), 2);
        due.is("count(0, 3)", x.count(0, 3), 2);
        due.row("BOTH, put at TOP with WAY 0", Rig.counts(x, 0, 1), 2);
        due.is("many(5)", x.many(5), 1);
        due.is("count(0, 0)", x.count(0, 0), 2);
        due.row("BOTH, put at 0 with WAY 0", Rig.counts(x, 0, 1), 1);
        due.is("count(0, 0)", x.count(0, 0), 1);
        due.row("BOTH, put at 0 with WAY 1", Rig.counts(x, 0, 1), 1);
        due.row("ofCounter(0, ..)", Look.counter(x, 0), 1, 3, 2, 1, 1, 0, 1, 2, -9);
    }

    private static void leastTop() {
        due.row("UP, TOP 1", Rig.counts(Rig.clocked(0, 1, 1), 0, 4), 1, 0, 1, 0);
        due.row("DOWN, TOP 1", Rig.counts(Rig.clocked(1, 1, 1), 0, 4), 1, 0, 1, 0);
        ChipTimers x = Rig.clocked(2, 1, 1);
        due.row("BOTH, TOP 1", Rig.counts(x, 0, 4), 1, 0, 1, 0);
        due.is("ofCounter(0, 7)", x.ofCounter(0, 7), 3);
    }

    private static void shareDividesPulses() {
        ChipTimers x = Rig.clocked(0, 9, 3);
        due.row("SHARE 3", Rig.counts(x, 0, 7), 0, 0, 1, 1, 1, 2, 2);
        due.is("ofCounter(0, 5)", x.ofCounter(0, 5), 1);
        ChipTimers y = Rig.clocked(0, 9, 64);
        y.ticks(63);
        due.row("SHARE 64", Look.counter(y, 0), 0, 9, 0, 64, 1, 63, 1, 0, -9);
        y.ticks(1);
        due.row("SHARE 64", Look.counter(y, 0), 1, 9, 0, 64, 1, 0, 1, 0, -9);
    }

    private static void chainOfCounters() {
        ChipTimers x = Rig.clocked(0, 1, 1);
        x.counter(1, 1, 1, 1);
        x.source(1, 2);
        x.counter(2, 2, 1, 2);
        x.source(2, 2);
        x.counter(3, 0, 9, 1);
        x.source(3, 2);
        x.ticks(1);
        due.row("1 is not OVER yet", Look.counter(x, 1), 0, 1, 1, 1, 2, 0, 1, 0, -9);
        x.ticks(1);
        due.row("0 went OVER", Look.counter(x, 0), 0, 1, 0, 1, 1, 0, 1, 1, -9);
        due.row("1 went OVER in the same TICK", Look.counter(x, 1), 1, 1, 1, 1, 2, 0, 1, 1, -9);
        due.row("2 got a PULSE", Look.counter(x, 2), 0, 1, 2, 2, 2, 1, 1, 0, -9);
        x.ticks(4);
        due.row("1 by two OVERS more", Look.counter(x, 1), 1, 1, 1, 1, 2, 0, 1, 2, -9);
        due.row("2 STEPPED", Look.counter(x, 2), 1, 1, 2, 2, 2, 0, 1, 0, -9);
        x.ticks(8);
        due.row("2 went OVER", Look.counter(x, 2), 0, 1, 2, 2, 2, 0, 0, 1, -9);
        due.is("3 by it: ofCounter(3, 0)", x.ofCounter(3, 0), 1);
        x.ticks(1);
        due.is("an OVER is of one TICK: ofCounter(3, 0)", x.ofCounter(3, 0), 1);
        due.is("many(5)", x.many(5), 7 + 4 + 1);
    }

    private static void pulsesByInput() {
        ChipTimers x = new ChipTimers();
        x.source(2, 3);
        x.input(1, 1);
        x.ticks(2);
        due.is("another INPUT: ofCounter(2, 0)", x.ofCounter(2, 0), 0);
        x.input(2, 1);
        x.ticks(1);
        due.is("a rising EDGE: ofCounter(2, 0)", x.ofCounter(2, 0), 1);
        x.ticks(3);
        due.is("no EDGE: ofCounter(2, 0)", x.ofCounter(2, 0), 1);
        x.input(2, 0);
        x.ticks(1);
        due.is("a falling EDGE: ofCounter(2, 0)", x.ofCounter(2, 0), 1);
        x.input(2, 1);
        x.ticks(1);
        due.is("a rising EDGE: ofCounter(2, 0)", x.ofCounter(2, 0), 2);
    }

    private static void waitingTopIsTakenInItsTurn() {
        ChipTimers up = Rig.clocked(0, 3, 1);
        up.top(0, 1);
        due.row("UP", Rig.counts(up, 0, 7), 1, 2, 3, 0, 1, 0, 1);
        ChipTimers down = Rig.clocked(1, 1, 1);
        down.count(0, 1);
        down.top(0, 3);
        due.row("DOWN", Rig.counts(down, 0, 7), 0, 3, 2, 1, 0, 3, 2);
        ChipTimers both = Rig.clocked(2, 2, 1);
        both.top(0, 1);
        due.row("BOTH", Rig.counts(both, 0, 4), 1, 2, 1, 0);
        due.row("not at TOP", Look.counter(both, 0), 0, 2, 2, 1, 1, 0, 0, 1, 1);
        due.row("BOTH", Rig.counts(both, 0, 1), 1);
        due.row("at 0", Look.counter(both, 0), 1, 1, 2, 1, 1, 0, 1, 2, -9);
        due.row("BOTH", Rig.counts(both, 0, 2), 0, 1);
        both.top(0, 5);
        both.top(0, 3);
        due.row("the last one that WAITS", Rig.counts(both, 0, 6), 0, 1, 2, 3, 2, 1);
    }
}
