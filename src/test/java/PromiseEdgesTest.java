/** Promises 1 to 26: the boundary cases of each line; 8 is in Terms2InputsTest, 21 in Terms3PairsTest. */
public final class PromiseEdgesTest {
    private static final Due due = new Due("PromiseEdgesTest");

    public static void main(String[] args) {
        promise1();
        promise2();
        promise3();
        promise4();
        promise5();
        promise6();
        promise7();
        promise9();
        promise10();
        promise11();
        promise12();
        promise13();
        promise14();
        promise15();
        promise16();
        promise17();
        promise18And19();
        promise20();
        promise22();
        promise23();
        promise24();
        promise25();
        promise26();
        due.end();
    }

    private static void promise1() {
        due.sentence("PAIRS do not HOLD; PERIOD 4, COUNTER 0 is CROSSED, PLAIN; FIRST, SECOND are 0");
        ChipTimers x = Rig.wholePair(0, 1);
        x.read(0, 0);
        x.ticks(2);
        due.is("read(0, 1)", x.read(0, 1), 1);
        due.row("crossed(..)", Look.crossed(new ChipTimers()), 0, 0, 4, 0, 0);
        ChipTimers plain = Rig.clocked(Rig.UP, 99, 1);
        plain.count(0, 8);
        plain.ticks(4);
        due.is("11 and 12, PLAIN: crossed(0)", plain.crossed(0), 8);
    }

    private static void promise2() {
        due.sentence("A COUNTER gets MODE, TOP, SHARE: COUNT, PHASE, OVERS are 0, WAY 1, no TOP WAITS (SOURCE stays): 1");
        for (int mode = 0; mode <= 2; mode++) {
            ChipTimers x = new ChipTimers();
            x.counter(2, Rig.BOTH, 2, 3);
            x.source(2, Rig.CLOCK);
            x.ticks(11);
            x.top(2, 5);
            due.row("all is otherwise", Look.counter(x, 2), 1, 2, 2, 3, 1, 2, 0, 1, 5);
            due.is("counter(2, " + mode + ", 2, 3)", x.counter(2, mode, 2, 3), 1);
            due.row("ofCounter(2, ..)", Look.counter(x, 2), 0, 2, mode, 3, 1, 0, 1, 0, -9);
            due.is("many(5)", x.many(5), 0);
            x.ticks(3);
            due.is("it goes on by the SOURCE that it had: ofCounter(2, 0)", x.ofCounter(2, 0), mode == 1 ? 2 : 1);
            due.is("counter(2, " + mode + ", 9999, 64)", x.counter(2, mode, 9999, 64), 1);
            due.row("ofCounter(2, ..)", Look.counter(x, 2), 0, 9999, mode, 64, 1, 0, 1, 0, -9);
            due.is("counter(2, " + mode + ", 1, 1)", x.counter(2, mode, 1, 1), 1);
            due.row("ofCounter(2, ..)", Look.counter(x, 2), 0, 1, mode, 1, 1, 0, 1, 0, -9);
        }
    }

    private static void promise3() {
        due.sentence("SOURCE becomes s: what it was");
        ChipTimers x = new ChipTimers();
        int was = 0;
        for (int s : new int[] {0, 3, 3, 2, 1, 2, 0}) {
            due.is("source(3, " + s + ")", x.source(3, s), was);
            was = s;
        }
    }

    private static void promise4() {
        due.sentence("COUNT becomes v: what it was [..] OUTSIDE: v is not 0 .. TOP");
        ChipTimers x = Rig.clocked(Rig.UP, 9, 1);
        due.is("count(0, 9)", x.count(0, 9), 0);
        due.is("count(0, 10)", x.count(0, 10), -2);
        due.is("count(0, -1)", x.count(0, -1), -2);
        due.is("count(0, 9)", x.count(0, 9), 9);
        x.top(0, 4);
        due.is("TOP is 9 still: count(0, 9)", x.count(0, 9), 9);
        x.ticks(1);
        due.is("TOP is 4 now: count(0, 5)", x.count(0, 5), -2);
        due.is("count(0, 4)", x.count(0, 4), 0);
        x.top(0, 20);
        due.is("TOP is 4 still: count(0, 5)", x.count(0, 5), -2);
        x.ticks(1);
        due.is("TOP is 20 now: count(0, 20)", x.count(0, 20), 0);
        due.is("count(0, 21)", x.count(0, 21), -2);
        due.is("count(0, 0)", x.count(0, 0), 20);
        due.row("PHASE, WAY and OVERS stay", Look.counter(x, 0), 0, 20, 0, 1, 1, 0, 1, 2, -9);
    }

    private static void promise5() {
        due.sentence("A TOP WAITS (in place of any): the TOP that there is now");
        ChipTimers x = Rig.clocked(Rig.UP, 3, 1);
        due.is("top(0, 8)", x.top(0, 8), 3);
        due.is("top(0, 1)", x.top(0, 1), 3);
        due.is("top(0, 5)", x.top(0, 5), 3);
        due.is("ofCounter(0, 8)", x.ofCounter(0, 8), 5);
        due.is("refused ones take no place: top(0, 0)", x.top(0, 0), -2);
        due.is("top(0, 10000)", x.top(0, 10000), -2);
        due.is("ofCounter(0, 8)", x.ofCounter(0, 8), 5);
        x.ticks(4);
        due.row("only the last one waited", Look.counter(x, 0), 0, 5, 0, 1, 1, 0, 1, 1, -9);
        due.is("top(0, 2)", x.top(0, 2), 5);
        x.ticks(5);
        due.row("no other one WAITS behind it", Look.counter(x, 0), 5, 5, 0, 1, 1, 0, 1, 1, 2);
    }

    private static void promise6() {
        due.sentence("Of a COUNTER: 0 COUNT, 1 TOP, 2 MODE, 3 SHARE, 4 SOURCE, 5 PHASE, 6 WAY, 7 OVERS, 8 the TOP that "
            + "WAITS (NONE).");
        ChipTimers apart = new ChipTimers();
        apart.counter(3, Rig.BOTH, 8, 5);
        apart.source(3, Rig.CLOCK);
        apart.ticks(5 * 10 + 4);
        apart.top(3, 77);
        apart.source(3, Rig.EDGE);
        due.row("ofCounter(3, ..)", Look.counter(apart, 3), 6, 8, 2, 5, 3, 4, 0, 1, 77);
        ChipTimers x = new ChipTimers();
        for (int c = 0; c < 4; c++) {
            due.is("ofCounter(" + c + ", 8)", x.ofCounter(c, 8), -9);
            x.top(c, 10 + c);
            due.is("ofCounter(" + c + ", 8)", x.ofCounter(c, 8), 10 + c);
            due.is("ofCounter(" + c + ", 9)", x.ofCounter(c, 9), -2);
            due.is("ofCounter(" + c + ", -1)", x.ofCounter(c, -1), -2);
            x.counter(c, 0, 9, 1);
            due.is("behind counter(): ofCounter(" + c + ", 8)", x.ofCounter(c, 8), -9);
        }
    }

    private static void promise7() {
        due.sentence("RAW becomes v (0, 1): what it was");
        for (int k = 0; k < 4; k++) {
            ChipTimers x = new ChipTimers();
            int was = 0;
            for (int v : new int[] {0, 1, 1, 0}) {
                due.is("input(" + k + ", " + v + ")", x.input(k, v), was);
                was = v;
            }
            due.is("input(" + k + ", 2)", x.input(k, 2), -2);
            due.is("input(" + k + ", -1)", x.input(k, -1), -2);
            due.row("no TICK, so nothing else: ofInput(" + k + ", ..)", Look.input(x, k), 0, 0, 0, 1);
        }
    }

    private static void promise9() {
        due.sentence("Of an INPUT: 0 RAW, 1 STEADY, 2 RUN, 3 FILTER");
        ChipTimers x = new ChipTimers();
        x.filter(3, 7);
        x.input(3, 1);
        x.ticks(5);
        due.row("ofInput(3, ..)", Look.input(x, 3), 1, 0, 5, 7);
        due.is("ofInput(3, 4)", x.ofInput(3, 4), -2);
        due.is("ofInput(3, -1)", x.ofInput(3, -1), -2);
    }

    private static void promise10() {
        due.sentence("A CATCHER gets a COUNTER, EDGES, EVERY: SEEN, VALUE, READY, MISSED are 0: 1");
        ChipTimers x = Rig.clocked(Rig.UP, 99, 1);
        x.catcher(0, 0, 3, 1);
        Rig.turn(x, 0);
        Rig.turn(x, 0);
        due.row("all is otherwise", Look.catcher(x, 0), 0, 3, 1, 2, 2, 1, 1);
        due.is("refused: catcher(0, 0, 3, 5)", x.catcher(0, 0, 3, 5), -2);
        due.row("ofCatcher(0, ..)", Look.catcher(x, 0), 0, 3, 1, 2, 2, 1, 1);
        due.is("catcher(0, 0, 3, 1)", x.catcher(0, 0, 3, 1), 1);
        due.row("ofCatcher(0, ..)", Look.catcher(x, 0), 0, 3, 1, 0, 0, 0, 0);
        due.is("many(4)", x.many(4), 0);
    }

    private static void promise11() {
        due.sentence("VALUE of a CATCHER, which is not READY any more; NONE: it was not READY. UNKNOWN");
        ChipTimers x = new ChipTimers();
        x.catcher(3, 0, 1, 1);
        due.is("taken(3)", x.taken(3), -9);
        due.is("taken(4)", x.taken(4), -1);
        due.is("taken(-1)", x.taken(-1), -1);
        Rig.turn(x, 3);
        due.is("the others: taken(2)", x.taken(2), -9);
        due.is("a VALUE of 0 is no NONE: taken(3)", x.taken(3), 0);
        due.is("taken(3)", x.taken(3), -9);
        due.is("ofCatcher(3, 5)", x.ofCatcher(3, 5), 0);
    }

    private static void promise12() {
        due.sentence("Of a CATCHER: 0 COUNTER, 1 EDGES, 2 EVERY, 3 SEEN, 4 VALUE, 5 READY, 6 MISSED");
        ChipTimers x = new ChipTimers();
        x.count(2, 70);
        x.catcher(1, 2, 3, 2);
        for (int i = 0; i < 9; i++) {
            Rig.turn(x, 1);
        }
        due.row("ofCatcher(1, ..)", Look.catcher(x, 1), 2, 3, 2, 9, 70, 1, 3);
        due.is("ofCatcher(1, 7)", x.ofCatcher(1, 7), -2);
        due.is("ofCatcher(1, -1)", x.ofCatcher(1, -1), -2);
    }

    private static void promise13() {
        due.sentence("n TICKS (0 .. 400): the number of TICKS then. OUTSIDE");
        ChipTimers x = Rig.clocked(Rig.UP, 9999, 1);
        due.is("ticks(0)", x.ticks(0), 0);
        due.is("ofCounter(0, 0)", x.ofCounter(0, 0), 0);
        due.is("ticks(400)", x.ticks(400), 400);
        due.is("ofCounter(0, 0)", x.ofCounter(0, 0), 400);
        due.is("ticks(401)", x.ticks(401), -2);
        due.is("ticks(-1)", x.ticks(-1), -2);
        due.is("many(0)", x.many(0), 400);
        due.is("ofCounter(0, 0)", x.ofCounter(0, 0), 400);
        due.is("ticks(399)", x.ticks(399), 799);
        due.is("ticks(0)", x.ticks(0), 799);
        due.is("ticks(1)", x.ticks(1), 800);
        due.is("ofCounter(0, 0)", x.ofCounter(0, 0), 800);
    }

    private static void promise14() {
        due.sentence("A CHANNEL gets a COUNTER, MODE, MARK: LEVEL, SINCE are 0: 1");
        ChipTimers x = new ChipTimers();
        x.channel(3, 2, Rig.BELOW, 9);
        x.outputs(3, 4, 1, 2);
        x.ticks(7);
        due.row("all is otherwise", Look.channel(x, 3), 2, 1, 9, 1, 7, 4, 1, 2, 1);
        due.is("refused: channel(3, 2, 1, 10000)", x.channel(3, 2, 1, 10000), -2);
        due.row("ofChannel(3, ..)", Look.channel(x, 3), 2, 1, 9, 1, 7, 4, 1, 2, 1);
        due.is("channel(3, 2, 1, 9)", x.channel(3, 2, 1, 9), 1);
        due.row("DEAD, POLARITY and SAFE stay", Look.channel(x, 3), 2, 1, 9, 0, 0, 4, 1, 2, 0);
    }

    private static void promise15() {
        due.sentence("A CHANNEL gets DEAD, POLARITY, SAFE: 1");
        ChipTimers x = new ChipTimers();
        x.channel(0, 1, Rig.BELOW, 9);
        x.ticks(7);
        due.is("outputs(0, 7, 2, 1)", x.outputs(0, 7, 2, 1), 1);
        due.row("the rest stays", Look.channel(x, 0), 1, 1, 9, 1, 7, 7, 2, 1, 0);
        due.is("outputs(0, 6, 2, 1)", x.outputs(0, 6, 2, 1), 1);
        due.row("SINCE is above DEAD", Look.channel(x, 0), 1, 1, 9, 1, 7, 6, 2, 1, 1);
    }

    private static void promise16() {
        due.sentence("Of a CHANNEL: 0 COUNTER, 1 MODE, 2 MARK, 3 LEVEL, 4 SINCE, 5 DEAD, 6 POLARITY, 7 SAFE, 8 the set of "
            + "its outputs that are ON.");
        ChipTimers apart = new ChipTimers();
        apart.count(3, 40);
        apart.channel(2, 3, Rig.ABOVE, 41);
        apart.outputs(2, 5, 3, 1);
        apart.ticks(6);
        due.row("LEVEL 0: ofChannel(2, ..)", Look.channel(apart, 2), 3, 2, 41, 0, 6, 5, 3, 1, 2);
        apart.count(3, 41);
        apart.ticks(7);
        due.row("LEVEL 1: ofChannel(2, ..)", Look.channel(apart, 2), 3, 2, 41, 1, 7, 5, 3, 1, 1);
        ChipTimers x = Rig.clocked(Rig.UP, 1, 1);
        x.channel(0, 0, Rig.BELOW, 1);
        due.is("none yet: ofChannel(0, 8)", x.ofChannel(0, 8), 0);
        x.ticks(1);
        due.is("output 1: ofChannel(0, 8)", x.ofChannel(0, 8), 2);
        x.ticks(1);
        due.is("output 0: ofChannel(0, 8)", x.ofChannel(0, 8), 1);
        x.outputs(0, 0, 3, 3);
        due.is("whatever POLARITY: ofChannel(0, 8)", x.ofChannel(0, 8), 1);
        x.brake();
        due.is("none while BRAKED, whatever SAFE: ofChannel(0, 8)", x.ofChannel(0, 8), 0);
        due.is("ofChannel(0, 9)", x.ofChannel(0, 9), -2);
        due.is("ofChannel(0, -1)", x.ofChannel(0, -1), -2);
    }

    private static void promise17() {
        due.sentence("The level of PIN p (0 .. 7). OUTSIDE");
        ChipTimers x = new ChipTimers();
        for (int k = 0; k < 4; k++) {
            x.outputs(k, 0, 3, 0);
        }
        for (int p = 0; p < 8; p++) {
            due.is("pin(" + p + ")", x.pin(p), 1);
        }
        due.is("pin(-1)", x.pin(-1), -2);
        due.is("pin(8)", x.pin(8), -2);
    }

    private static void promise18And19() {
        due.sentence("It is BRAKED from now on: 1; 0: it was already [..] It is not BRAKED any more: 1; 0: it was not");
        ChipTimers x = new ChipTimers();
        due.is("arm()", x.arm(), 0);
        due.is("many(1)", x.many(1), 0);
        for (int i = 0; i < 2; i++) {
            due.is("brake()", x.brake(), 1);
            due.is("many(1)", x.many(1), 1);
            due.is("brake()", x.brake(), 0);
            due.is("many(1)", x.many(1), 1);
            due.is("arm()", x.arm(), 1);
            due.is("many(1)", x.many(1), 0);
            due.is("arm()", x.arm(), 0);
            due.is("many(1)", x.many(1), 0);
        }
    }

    private static void promise20() {
        due.sentence("NONE: there are not so many. OUTSIDE: k (0 .. 23), what");
        ChipTimers x = new ChipTimers();
        x.outputs(0, 0, 3, 0);
        due.is("record(1, 2)", x.record(1, 2), 1);
        due.is("record(2, 2)", x.record(2, 2), -9);
        due.is("record(23, 2)", x.record(23, 2), -9);
        due.is("record(24, 2)", x.record(24, 2), -2);
        due.is("record(-1, 2)", x.record(-1, 2), -2);
        due.is("record(1, 3)", x.record(1, 3), -2);
        due.is("record(1, -1)", x.record(1, -1), -2);
        due.is("record(2, 3)", x.record(2, 3), -2);
        due.is("record(2, -1)", x.record(2, -1), -2);
    }

    private static void promise22() {
        due.sentence("A READ of the low (half 0), high half (1) of a PAIR. UNKNOWN; OUTSIDE; STATE: it is not whole");
        ChipTimers x = Rig.wholePair(1, 9);
        x.ticks(25);
        due.is("read(1, 0)", x.read(1, 0), 5);
        due.is("read(1, 1)", x.read(1, 1), 2);
        due.is("read(1, 2)", x.read(1, 2), -2);
        due.is("read(1, -1)", x.read(1, -1), -2);
        due.is("read(2, 0)", x.read(2, 0), -1);
        due.is("read(-1, 0)", x.read(-1, 0), -1);
        due.is("read(0, 0)", x.read(0, 0), -3);
        due.is("OUTSIDE ahead of STATE: read(0, 2)", x.read(0, 2), -2);
    }

    private static void promise23() {
        due.sentence("The wide COUNT of a PAIR: that of the high one times TOP of the low one and 1, and that of "
            + "the low one");
        for (int k = 0; k < 2; k++) {
            ChipTimers x = Rig.wholePair(k, 9999);
            x.counter(2 * k + 1, Rig.UP, 9999, 1);
            due.is("the least: wide(" + k + ")", x.wide(k), 0);
            x.count(2 * k, 9999);
            due.is("wide(" + k + ")", x.wide(k), 9999);
            x.ticks(1);
            due.is("wide(" + k + ")", x.wide(k), 10000);
            x.count(2 * k, 9998);
            x.count(2 * k + 1, 9999);
            x.ticks(1);
            due.is("the widest: wide(" + k + ")", x.wide(k), 99999999);
            x.ticks(1);
            due.is("OVER: wide(" + k + ")", x.wide(k), 0);
        }
        ChipTimers narrow = Rig.wholePair(0, 1);
        narrow.counter(1, Rig.UP, 1, 1);
        int[] wanted = {1, 2, 3, 0, 1};
        for (int want : wanted) {
            narrow.ticks(1);
            due.is("the least TOPS: wide(0)", narrow.wide(0), want);
        }
        ChipTimers waits = Rig.wholePair(0, 4);
        waits.ticks(7);
        waits.top(0, 9);
        due.is("a TOP that WAITS: wide(0)", waits.wide(0), 7);
        waits.ticks(3);
        due.is("a TOP that waited: wide(0)", waits.wide(0), 20);
    }

    private static void promise24() {
        due.sentence("PERIOD (2 .. 16), the COUNTER that is CROSSED, how (0 PLAIN, 1 TWISTED): FIRST, SECOND are 0: 1");
        ChipTimers x = new ChipTimers();
        x.count(0, 44);
        x.ticks(8);
        due.row("crossed(..)", Look.crossed(x), 44, 44, 4, 0, 0);
        due.is("slow(1, 0, 0)", x.slow(1, 0, 0), -2);
        due.is("slow(17, 0, 0)", x.slow(17, 0, 0), -2);
        due.is("slow(2, 0, 2)", x.slow(2, 0, 2), -2);
        due.is("slow(2, 0, -1)", x.slow(2, 0, -1), -2);
        due.is("slow(2, 4, 0)", x.slow(2, 4, 0), -1);
        due.is("slow(2, -1, 0)", x.slow(2, -1, 0), -1);
        due.row("refused", Look.crossed(x), 44, 44, 4, 0, 0);
        due.is("slow(2, 3, 1)", x.slow(2, 3, 1), 1);
        due.row("crossed(..)", Look.crossed(x), 0, 0, 2, 3, 1);
        due.is("slow(16, 0, 0)", x.slow(16, 0, 0), 1);
        due.row("crossed(..)", Look.crossed(x), 0, 0, 16, 0, 0);
        due.is("the same once more: slow(16, 0, 0)", x.slow(16, 0, 0), 1);
    }

    private static void promise25() {
        due.sentence("FIRST (what 0), SECOND (1), PERIOD (2), the COUNTER that is CROSSED (3), how (4). OUTSIDE");
        ChipTimers x = new ChipTimers();
        x.slow(7, 2, 1);
        x.count(2, 31);
        x.ticks(7);
        x.count(2, 32);
        x.ticks(7);
        due.row("crossed(..)", Look.crossed(x), 32, 31, 7, 2, 1);
        due.is("crossed(5)", x.crossed(5), -2);
        due.is("crossed(-1)", x.crossed(-1), -2);
    }

    private static void promise26() {
        due.sentence("How many: 0 TICKS, 1 whether it is BRAKED (1, 0), 2 outputs that are ON, 3 entries of the "
            + "RECORD, 4 CATCHERS that are READY, 5 OVERS of all COUNTERS. OUTSIDE");
        ChipTimers x = new ChipTimers();
        due.row("the least", Look.many(x), 0, 0, 0, 0, 0, 0);
        for (int k = 0; k < 4; k++) {
            x.counter(k, k % 3, 1, 1);
            x.source(k, Rig.CLOCK);
            x.catcher(k, 0, 3, 1);
            x.input(k, 1);
            x.channel(k, k, Rig.BELOW, 1);
        }
        x.ticks(400);
        due.row("the most", Look.many(x), 400, 0, 4, 24, 4, 200 + 200 + 399 + 200);
        x.brake();
        due.row("BRAKED", Look.many(x), 400, 1, 0, 24, 4, 999);
        for (int k = 0; k < 4; k++) {
            x.taken(k);
            due.is("many(4)", x.many(4), 3 - k);
        }
        x.counter(2, 0, 1, 1);
        due.is("counter() takes its OVERS away: many(5)", x.many(5), 600);
        due.is("many(6)", x.many(6), -2);
        due.is("many(-1)", x.many(-1), -2);
    }
}
