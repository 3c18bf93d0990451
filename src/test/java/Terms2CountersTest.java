/** Terms 2, COUNTERS: whence PULSES come, PHASE that comes to SHARE, and STEPS that go OVER. */
public final class Terms2CountersTest {
    private static final Due due = new Due("Terms2CountersTest");

    public static void main(String[] args) {
        pulseByClock();
        pulseByOverInThisTick();
        pulseByTheOneAheadAlone();
        noCounterAheadOfZero();
        pulseByRisingEdgeOfItsInput();
        phaseComesToShare();
        phaseStaysWithoutPulses();
        upAtTop();
        upBelowTop();
        downAtZero();
        downAboveZero();
        bothAtTop();
        bothAtZero();
        bothAtEndsThatAreNotItsWay();
        waitingTopUp();
        waitingTopDown();
        waitingTopBothGoesOnWaiting();
        waitingTopOfTheSameSize();
        waitingTopWithoutOver();
        waitingTopOfAStillCounter();
        overOfAllFourInOneTick();
        due.end();
    }

    private static void pulseByClock() {
        due.sentence("each gets a PULSE: with SOURCE 1");
        for (int c = 0; c < 4; c++) {
            ChipTimers x = new ChipTimers();
            x.source(c, Rig.CLOCK);
            x.ticks(5);
            for (int other = 0; other < 4; other++) {
                due.is("SOURCE of " + c + ": ofCounter(" + other + ", 0)", x.ofCounter(other, 0), other == c ? 5 : 0);
            }
            x.source(c, 0);
            x.ticks(5);
            due.is("SOURCE 0: ofCounter(" + c + ", 0)", x.ofCounter(c, 0), 5);
        }
    }

    private static void pulseByOverInThisTick() {
        due.sentence("with SOURCE 2, if the COUNTER ahead (its number less 1) went OVER in this TICK");
        int[][] wanted = {{0, 0, 1, 1, 1, 2, 2}, {1, 1, 1, 2, 2, 2, 3}, {0, 0, 1, 1, 2, 2, 3}};
        for (int mode = 0; mode <= 2; mode++) {
            for (int c = 1; c < 4; c++) {
                ChipTimers x = new ChipTimers();
                x.counter(c - 1, mode, 2, 1);
                x.source(c - 1, Rig.CLOCK);
                x.source(c, Rig.AHEAD);
                due.row("COUNTER " + c + " behind MODE " + mode, Rig.counts(x, c, 7), wanted[mode]);
            }
        }
        ChipTimers x = Rig.clocked(Rig.UP, 1, 1);
        x.ticks(2);
        x.source(1, Rig.AHEAD);
        x.source(0, 0);
        x.ticks(5);
        due.is("an OVER of an earlier TICK: ofCounter(1, 0)", x.ofCounter(1, 0), 0);
        ChipTimers y = Rig.clocked(Rig.UP, 1, 3);
        y.source(1, Rig.AHEAD);
        y.ticks(6);
        due.is("ofCounter(1, 0)", y.ofCounter(1, 0), 1);
        y.ticks(1);
        due.is("a PULSE ahead that is no STEP: ofCounter(1, 0)", y.ofCounter(1, 0), 1);
    }

    private static void pulseByTheOneAheadAlone() {
        due.sentence("the COUNTER ahead (its number less 1)");
        for (int over = 0; over < 4; over++) {
            ChipTimers x = new ChipTimers();
            for (int c = 1; c < 4; c++) {
                x.source(c, Rig.AHEAD);
            }
            x.counter(over, Rig.UP, 1, 1);
            x.source(over, Rig.CLOCK);
            x.ticks(20);
            for (int c = 0; c < 4; c++) {
                if (c != over) {
                    due.is("OVER of " + over + ": ofCounter(" + c + ", 0)", x.ofCounter(c, 0), c == over + 1 ? 10 : 0);
                }
            }
        }
    }

    private static void noCounterAheadOfZero() {
        due.sentence("STATE: s is 2, c is 0");
        ChipTimers x = new ChipTimers();
        due.is("source(0, 1)", x.source(0, 1), 0);
        due.is("source(0, 2)", x.source(0, 2), -3);
        due.is("ofCounter(0, 4)", x.ofCounter(0, 4), 1);
        x.ticks(3);
        due.is("ofCounter(0, 0)", x.ofCounter(0, 0), 3);
        for (int c = 1; c < 4; c++) {
            due.is("source(" + c + ", 2)", x.source(c, 2), 0);
        }
    }

    private static void pulseByRisingEdgeOfItsInput() {
        due.sentence("with SOURCE 3, if the INPUT of its number had a rising EDGE in this TICK");
        for (int k = 0; k < 4; k++) {
            ChipTimers x = new ChipTimers();
            for (int c = 0; c < 4; c++) {
                x.source(c, Rig.EDGE);
            }
            x.filter(k, 2);
            x.input(k, 1);
            int[] wanted = {0, 1, 1, 1};
            due.row("rising, FILTER 2", Rig.counts(x, k, 4), wanted);
            x.input(k, 0);
            due.row("falling", Rig.counts(x, k, 4), 1, 1, 1, 1);
            x.input(k, 1);
            due.row("rising again", Rig.counts(x, k, 3), 1, 2, 2);
            for (int c = 0; c < 4; c++) {
                due.is("INPUT " + k + ": ofCounter(" + c + ", 0)", x.ofCounter(c, 0), c == k ? 2 : 0);
            }
        }
    }

    private static void phaseComesToShare() {
        due.sentence("By a PULSE PHASE is one more; if it is SHARE then, it is 0, and the COUNTER STEPS");
        for (int share = 1; share <= 64; share++) {
            ChipTimers x = Rig.clocked(Rig.UP, 99, share);
            x.ticks(share - 1);
            due.row("SHARE " + share + ", one less", Look.counter(x, 0), 0, 99, 0, share, 1, share - 1, 1, 0, -9);
            x.ticks(1);
            due.row("SHARE " + share, Look.counter(x, 0), 1, 99, 0, share, 1, 0, 1, 0, -9);
            x.ticks(share);
            due.row("SHARE " + share + ", twice", Look.counter(x, 0), 2, 99, 0, share, 1, 0, 1, 0, -9);
        }
        ChipTimers behind = Rig.clocked(Rig.UP, 1, 1);
        behind.counter(1, Rig.DOWN, 9, 2);
        behind.source(1, Rig.AHEAD);
        behind.ticks(2);
        due.row("one OVER of two", Look.counter(behind, 1), 0, 9, 1, 2, 2, 1, 1, 0, -9);
        behind.ticks(2);
        due.row("two OVERS of two", Look.counter(behind, 1), 9, 9, 1, 2, 2, 0, 1, 1, -9);
    }

    private static void phaseStaysWithoutPulses() {
        due.sentence("By a PULSE PHASE is one more");
        ChipTimers x = Rig.clocked(Rig.UP, 99, 5);
        x.ticks(4);
        x.source(0, 0);
        x.ticks(50);
        due.is("no PULSE: ofCounter(0, 5)", x.ofCounter(0, 5), 4);
        x.count(0, 30);
        x.top(0, 50);
        x.source(0, Rig.EDGE);
        due.is("ofCounter(0, 5)", x.ofCounter(0, 5), 4);
        Rig.turn(x, 0);
        due.row("ofCounter(0, ..)", Look.counter(x, 0), 31, 99, 0, 5, 3, 0, 1, 0, 50);
    }

    private static void upAtTop() {
        due.sentence("UP: COUNT is one more, but at TOP it goes OVER: a TOP that WAITS is TOP now, COUNT is 0");
        for (int top : new int[] {1, 2, 99, 9999}) {
            ChipTimers x = Rig.clocked(Rig.UP, top, 1);
            x.count(0, top);
            x.ticks(1);
            due.row("TOP " + top, Look.counter(x, 0), 0, top, 0, 1, 1, 0, 1, 1, -9);
        }
    }

    private static void upBelowTop() {
        due.sentence("UP: COUNT is one more");
        for (int top : new int[] {1, 2, 99, 9999}) {
            ChipTimers x = Rig.clocked(Rig.UP, top, 1);
            x.count(0, top - 1);
            x.ticks(1);
            due.row("TOP " + top, Look.counter(x, 0), top, top, 0, 1, 1, 0, 1, 0, -9);
        }
    }

    private static void downAtZero() {
        due.sentence("DOWN: COUNT is one less, but at 0 it goes OVER: a TOP that WAITS is TOP now, COUNT is TOP");
        for (int top : new int[] {1, 2, 99, 9999}) {
            ChipTimers x = Rig.clocked(Rig.DOWN, top, 1);
            x.ticks(1);
            due.row("TOP " + top, Look.counter(x, 0), top, top, 1, 1, 1, 0, 1, 1, -9);
        }
    }

    private static void downAboveZero() {
        due.sentence("DOWN: COUNT is one less");
        for (int top : new int[] {1, 2, 99, 9999}) {
            ChipTimers x = Rig.clocked(Rig.DOWN, top, 1);
            x.count(0, 1);
            x.ticks(1);
            due.row("TOP " + top, Look.counter(x, 0), 0, top, 1, 1, 1, 0, 1, 0, -9);
            x.count(0, top);
            x.ticks(1);
            due.row("TOP " + top, Look.counter(x, 0), top - 1, top, 1, 1, 1, 0, 1, 0, -9);
        }
    }

    private static void bothAtTop() {
        due.sentence("BOTH: with WAY 1 at TOP it goes OVER, and WAY is 0; [..] then COUNT is one more by WAY 1, one less "
            + "by WAY 0");
        for (int top : new int[] {1, 2, 99, 9999}) {
            ChipTimers x = Rig.clocked(Rig.BOTH, top, 1);
            x.count(0, top - 1);
            x.ticks(1);
            due.row("TOP " + top + ", one below", Look.counter(x, 0), top, top, 2, 1, 1, 0, 1, 0, -9);
            x.ticks(1);
            due.row("TOP " + top, Look.counter(x, 0), top - 1, top, 2, 1, 1, 0, 0, 1, -9);
        }
    }

    private static void bothAtZero() {
        due.sentence("with WAY 0 at 0 it goes OVER, WAY is 1, a TOP that WAITS is TOP now; then COUNT is one more by "
            + "WAY 1");
        for (int top : new int[] {1, 2, 99, 9999}) {
            ChipTimers x = Rig.clocked(Rig.BOTH, top, 1);
            x.count(0, top);
            x.ticks(1);
            x.count(0, 1);
            x.ticks(1);
            due.row("TOP " + top + ", one above", Look.counter(x, 0), 0, top, 2, 1, 1, 0, 0, 1, -9);
            x.ticks(1);
            due.row("TOP " + top, Look.counter(x, 0), 1, top, 2, 1, 1, 0, 1, 2, -9);
        }
    }

    private static void bothAtEndsThatAreNotItsWay() {
        due.sentence("BOTH: with WAY 1 at TOP it goes OVER [..] with WAY 0 at 0 it goes OVER");
        ChipTimers x = Rig.clocked(Rig.BOTH, 9, 1);
        x.ticks(1);
        due.row("at 0 with WAY 1", Look.counter(x, 0), 1, 9, 2, 1, 1, 0, 1, 0, -9);
        x.count(0, 9);
        x.ticks(1);
        x.count(0, 9);
        x.ticks(1);
        due.row("at TOP with WAY 0", Look.counter(x, 0), 8, 9, 2, 1, 1, 0, 0, 1, -9);
    }

    private static void waitingTopUp() {
        due.sentence("UP: [..] at TOP it goes OVER: a TOP that WAITS is TOP now, COUNT is 0");
        for (int waits : new int[] {1, 2, 3, 5, 9999}) {
            ChipTimers x = Rig.clocked(Rig.UP, 3, 1);
            x.top(0, waits);
            x.ticks(3);
            due.row("at the old TOP", Look.counter(x, 0), 3, 3, 0, 1, 1, 0, 1, 0, waits);
            x.ticks(1);
            due.row("TOP " + waits + " now", Look.counter(x, 0), 0, waits, 0, 1, 1, 0, 1, 1, -9);
        }
        ChipTimers x = Rig.clocked(Rig.UP, 3, 1);
        x.top(0, 1);
        due.row("COUNTS", Rig.counts(x, 0, 9), 1, 2, 3, 0, 1, 0, 1, 0, 1);
    }

    private static void waitingTopDown() {
        due.sentence("DOWN: [..] at 0 it goes OVER: a TOP that WAITS is TOP now, COUNT is TOP");
        for (int waits : new int[] {1, 2, 3, 5, 9999}) {
            ChipTimers x = Rig.clocked(Rig.DOWN, 3, 1);
            x.count(0, 1);
            x.top(0, waits);
            x.ticks(1);
            due.row("at 0", Look.counter(x, 0), 0, 3, 1, 1, 1, 0, 1, 0, waits);
            x.ticks(1);
            due.row("TOP " + waits + " now", Look.counter(x, 0), waits, waits, 1, 1, 1, 0, 1, 1, -9);
        }
    }

    private static void waitingTopBothGoesOnWaiting() {
        due.sentence("BOTH: with WAY 1 at TOP it goes OVER, and WAY is 0; with WAY 0 at 0 it goes OVER, WAY is 1, "
            + "a TOP that WAITS is TOP now");
        for (int waits : new int[] {1, 2, 3, 5, 9999}) {
            ChipTimers x = Rig.clocked(Rig.BOTH, 3, 1);
            x.top(0, waits);
            x.ticks(1);
            due.row("away from 0 at first it WAITS", Look.counter(x, 0), 1, 3, 2, 1, 1, 0, 1, 0, waits);
            x.ticks(3);
            due.row("OVER at TOP it goes on waiting", Look.counter(x, 0), 2, 3, 2, 1, 1, 0, 0, 1, waits);
            x.ticks(2);
            due.row("at 0 it WAITS still", Look.counter(x, 0), 0, 3, 2, 1, 1, 0, 0, 1, waits);
            x.ticks(1);
            due.row("OVER at 0 it is TOP", Look.counter(x, 0), 1, waits, 2, 1, 1, 0, 1, 2, -9);
        }
        ChipTimers x = Rig.clocked(Rig.BOTH, 3, 1);
        x.top(0, 1);
        due.row("COUNTS", Rig.counts(x, 0, 10), 1, 2, 3, 2, 1, 0, 1, 0, 1, 0);
        due.is("ofCounter(0, 7)", x.ofCounter(0, 7), 5);
    }

    private static void waitingTopOfTheSameSize() {
        due.sentence("a TOP that WAITS is TOP now");
        for (int mode = 0; mode <= 2; mode++) {
            ChipTimers x = Rig.clocked(mode, 2, 1);
            due.is("top(0, 2)", x.top(0, 2), 2);
            due.is("ofCounter(0, 8)", x.ofCounter(0, 8), 2);
            x.ticks(5);
            due.is("MODE " + mode + ", it WAITS no more: ofCounter(0, 8)", x.ofCounter(0, 8), -9);
            due.is("ofCounter(0, 1)", x.ofCounter(0, 1), 2);
        }
    }

    private static void waitingTopWithoutOver() {
        due.sentence("at TOP it goes OVER: a TOP that WAITS is TOP now");
        ChipTimers x = Rig.clocked(Rig.UP, 9, 1);
        x.top(0, 4);
        x.ticks(7);
        due.row("above the TOP that WAITS", Look.counter(x, 0), 7, 9, 0, 1, 1, 0, 1, 0, 4);
        ChipTimers y = Rig.clocked(Rig.UP, 3, 1);
        y.top(0, 8);
        due.row("the old TOP is the end", Rig.counts(y, 0, 5), 1, 2, 3, 0, 1);
        ChipTimers z = Rig.clocked(Rig.DOWN, 9, 1);
        z.count(0, 9);
        z.top(0, 4);
        due.row("DOWN by way of the one that WAITS", Rig.counts(z, 0, 11), 8, 7, 6, 5, 4, 3, 2, 1, 0, 4, 3);
    }

    private static void waitingTopOfAStillCounter() {
        due.sentence("A TOP WAITS (in place of any)");
        for (int mode = 0; mode <= 2; mode++) {
            ChipTimers x = new ChipTimers();
            x.counter(1, mode, 2, 1);
            x.top(1, 7);
            x.ticks(400);
            due.row("without a SOURCE, MODE " + mode, Look.counter(x, 1), 0, 2, mode, 1, 0, 0, 1, 0, 7);
        }
    }

    private static void overOfAllFourInOneTick() {
        due.sentence("COUNTERS, by number");
        ChipTimers x = Rig.clocked(Rig.UP, 9, 1);
        x.count(0, 9);
        for (int c = 1; c < 4; c++) {
            x.counter(c, Rig.UP, c, 1);
            x.count(c, c);
            x.source(c, Rig.AHEAD);
        }
        x.ticks(1);
        for (int c = 0; c < 4; c++) {
            due.is("ofCounter(" + c + ", 0)", x.ofCounter(c, 0), 0);
            due.is("ofCounter(" + c + ", 7)", x.ofCounter(c, 7), 1);
        }
        due.is("many(5)", x.many(5), 4);
    }
}
