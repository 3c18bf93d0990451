/** Promise 13, and the order of things in a TICK. */
public final class TicksTest {
    private static final Due due = new Due("TicksTest");

    public static void main(String[] args) {
        ticksAreCounted();
        noTickChangesNothing();
        manyTicksAreAsManySingleOnes();
        everythingInOneTick();
        channelsFollowTheCountBehindTheStep();
        due.end();
    }

    private static void ticksAreCounted() {
        ChipTimers x = new ChipTimers();
        due.is("ticks(0)", x.ticks(0), 0);
        due.is("ticks(1)", x.ticks(1), 1);
        due.is("ticks(400)", x.ticks(400), 401);
        due.is("ticks(401)", x.ticks(401), -2);
        due.is("ticks(-1)", x.ticks(-1), -2);
        due.is("ticks(2147483647)", x.ticks(2147483647), -2);
        due.is("ticks(-2147483648)", x.ticks(-2147483648), -2);
        due.is("many(0)", x.many(0), 401);
        int last = 0;
        for (int i = 0; i < 500; i++) {
            last = x.ticks(400);
        }
        due.is("500 times ticks(400)", last, 401 + 500 * 400);
    }

    private static ChipTimers busy() {
        ChipTimers x = new ChipTimers();
        x.counter(0, 0, 6, 1);
        x.source(0, 1);
        x.counter(1, 2, 3, 1);
        x.source(1, 2);
        x.counter(2, 1, 5, 3);
        x.source(2, 1);
        x.source(3, 3);
        x.filter(3, 4);
        x.input(3, 1);
        x.catcher(3, 0, 3, 1);
        x.channel(0, 0, 1, 3);
        x.outputs(0, 1, 2, 1);
        x.channel(1, 1, 3, 2);
        x.channel(2, 2, 4, 3);
        x.channel(3, 0, 2, 5);
        x.slow(3, 0, 1);
        return x;
    }

    private static void noTickChangesNothing() {
        ChipTimers x = busy();
        x.ticks(5);
        int[] ahead = Look.all(x);
        due.is("ticks(0)", x.ticks(0), 5);
        due.row("all behind ticks(0)", Look.all(x), ahead);
    }

    private static void manyTicksAreAsManySingleOnes() {
        ChipTimers whole = busy();
        whole.ticks(97);
        ChipTimers single = busy();
        for (int i = 0; i < 97; i++) {
            single.ticks(1);
        }
        due.row("97 single TICKS", Look.all(single), Look.all(whole));
    }

    /** An EDGE pulses a COUNTER, whose OVER pulses the next, which a CATCHER, a CHANNEL and the SLOW clock see. */
    private static void everythingInOneTick() {
        ChipTimers x = new ChipTimers();
        x.source(0, 3);
        x.counter(0, 0, 9, 1);
        x.count(0, 9);
        x.source(1, 2);
        x.counter(1, 0, 9, 1);
        x.count(1, 6);
        x.catcher(0, 1, 1, 1);
        x.channel(0, 1, 4, 7);
        x.slow(2, 1, 0);
        x.ticks(1);
        x.input(0, 1);
        due.is("ticks(1)", x.ticks(1), 2);
        due.is("ofCounter(1, 0)", x.ofCounter(1, 0), 7);
        due.is("ofCatcher(0, 4)", x.ofCatcher(0, 4), 7);
        due.is("ofChannel(0, 3)", x.ofChannel(0, 3), 1);
        due.is("ofChannel(0, 4)", x.ofChannel(0, 4), 1);
        due.is("pin(0)", x.pin(0), 1);
        due.is("crossed(0)", x.crossed(0), 6 & 7);
        due.row("record(0, ..)", Look.entry(x, 0), 2, 1, 0);
        due.row("record(1, ..)", Look.entry(x, 1), 2, 0, 1);
    }

    private static void channelsFollowTheCountBehindTheStep() {
        ChipTimers x = new ChipTimers();
        x.source(0, 1);
        x.channel(0, 0, 1, 1);
        x.channel(1, 0, 2, 1);
        x.ticks(1);
        due.is("BELOW 1 at 1: ofChannel(0, 3)", x.ofChannel(0, 3), 0);
        due.is("ABOVE 1 at 1: ofChannel(1, 3)", x.ofChannel(1, 3), 1);
    }
}
