/** Refusals of every call, in their order, and that a refused call changes nothing. */
public final class RefusalTest {
    private static final Due due = new Due("RefusalTest");

    private interface Call {
        int on(ChipTimers x);
    }

    public static void main(String[] args) {
        int[] bad = {-1, Integer.MIN_VALUE, Integer.MAX_VALUE};
        for (int b : bad) {
            unknown(b);
            outside(b);
        }
        unknown(4);
        justOutside();
        states();
        due.end();
    }

    private static void refused(String told, int want, Call call) {
        ChipTimers x = Rig.busy();
        int[] ahead = Look.all(x);
        due.is(told, call.on(x), want);
        due.row("all behind " + told, Look.all(x), ahead);
        due.is("what is HELD behind " + told, x.read(0, 1), 4);
        due.is("the high COUNT behind " + told, x.read(0, 1), 6);
        due.is("whether PAIR 0 HOLDS behind " + told, x.holds(0, 0), 1);
        due.is("whether PAIR 1 HOLDS behind " + told, x.holds(1, 0), 0);
    }

    /** UNKNOWN comes ahead of OUTSIDE and STATE, so all else is wrong here, too. */
    private static void unknown(int b) {
        due.sentence("REFUSALS, in the order in which a call's line tells them (of several the first one): UNKNOWN "
            + "(there is no such COUNTER, INPUT, CATCHER, CHANNEL, PAIR)");
        refused("counter(" + b + ", ..)", -1, x -> x.counter(b, -1, 0, 0));
        refused("source(" + b + ", 9)", -1, x -> x.source(b, 9));
        refused("source(" + b + ", 2)", -1, x -> x.source(b, 2));
        refused("count(" + b + ", -1)", -1, x -> x.count(b, -1));
        refused("top(" + b + ", 0)", -1, x -> x.top(b, 0));
        refused("ofCounter(" + b + ", -1)", -1, x -> x.ofCounter(b, -1));
        refused("input(" + b + ", 2)", -1, x -> x.input(b, 2));
        refused("filter(" + b + ", 0)", -1, x -> x.filter(b, 0));
        refused("ofInput(" + b + ", -1)", -1, x -> x.ofInput(b, -1));
        refused("catcher(" + b + ", 0, ..)", -1, x -> x.catcher(b, 0, 1, 1));
        refused("catcher(0, " + b + ", ..)", -1, x -> x.catcher(0, b, 9, 9));
        refused("taken(" + b + ")", -1, x -> x.taken(b));
        refused("ofCatcher(" + b + ", -1)", -1, x -> x.ofCatcher(b, -1));
        refused("channel(" + b + ", 0, ..)", -1, x -> x.channel(b, 0, 1, 1));
        refused("channel(0, " + b + ", ..)", -1, x -> x.channel(0, b, 9, -1));
        refused("outputs(" + b + ", ..)", -1, x -> x.outputs(b, 99, 9, 9));
        refused("ofChannel(" + b + ", -1)", -1, x -> x.ofChannel(b, -1));
        refused("holds(" + b + ", 2)", -1, x -> x.holds(b, 2));
        refused("read(" + b + ", 2)", -1, x -> x.read(b, 2));
        refused("wide(" + b + ")", -1, x -> x.wide(b));
        refused("slow(1, " + b + ", 2)", -1, x -> x.slow(1, b, 2));
    }

    private static void outside(int b) {
        due.sentence("OUTSIDE (another number is not as told), STATE (as told); they change nothing");
        refused("counter(1, " + b + ", 1, 1)", -2, x -> x.counter(1, b, 1, 1));
        refused("counter(1, 0, " + b + ", 1)", -2, x -> x.counter(1, 0, b, 1));
        refused("counter(1, 0, 1, " + b + ")", -2, x -> x.counter(1, 0, 1, b));
        refused("source(0, " + b + ")", -2, x -> x.source(0, b));
        refused("count(1, " + b + ")", -2, x -> x.count(1, b));
        refused("top(1, " + b + ")", -2, x -> x.top(1, b));
        refused("ofCounter(1, " + b + ")", -2, x -> x.ofCounter(1, b));
        refused("input(1, " + b + ")", -2, x -> x.input(1, b));
        refused("filter(1, " + b + ")", -2, x -> x.filter(1, b));
        refused("ofInput(1, " + b + ")", -2, x -> x.ofInput(1, b));
        refused("catcher(1, 1, " + b + ", 1)", -2, x -> x.catcher(1, 1, b, 1));
        refused("catcher(1, 1, 1, " + b + ")", -2, x -> x.catcher(1, 1, 1, b));
        refused("ofCatcher(1, " + b + ")", -2, x -> x.ofCatcher(1, b));
        refused("ticks(" + b + ")", -2, x -> x.ticks(b));
        refused("channel(1, 1, " + b + ", 1)", -2, x -> x.channel(1, 1, b, 1));
        refused("channel(1, 1, 1, " + b + ")", -2, x -> x.channel(1, 1, 1, b));
        refused("outputs(1, " + b + ", 0, 0)", -2, x -> x.outputs(1, b, 0, 0));
        refused("outputs(1, 0, " + b + ", 0)", -2, x -> x.outputs(1, 0, b, 0));
        refused("outputs(1, 0, 0, " + b + ")", -2, x -> x.outputs(1, 0, 0, b));
        refused("ofChannel(1, " + b + ")", -2, x -> x.ofChannel(1, b));
        refused("pin(" + b + ")", -2, x -> x.pin(b));
        refused("record(" + b + ", 0)", -2, x -> x.record(b, 0));
        refused("record(0, " + b + ")", -2, x -> x.record(0, b));
        refused("holds(0, " + b + ")", -2, x -> x.holds(0, b));
        refused("read(0, " + b + ")", -2, x -> x.read(0, b));
        refused("read(1, " + b + ")", -2, x -> x.read(1, b));
        refused("slow(" + b + ", 0, 0)", -2, x -> x.slow(b, 0, 0));
        refused("slow(2, 0, " + b + ")", -2, x -> x.slow(2, 0, b));
        refused("crossed(" + b + ")", -2, x -> x.crossed(b));
        refused("many(" + b + ")", -2, x -> x.many(b));
    }

    private static void justOutside() {
        due.sentence("OUTSIDE (another number is not as told)");
        refused("counter(1, 3, 1, 1)", -2, x -> x.counter(1, 3, 1, 1));
        refused("counter(1, 0, 0, 1)", -2, x -> x.counter(1, 0, 0, 1));
        refused("counter(1, 0, 10000, 1)", -2, x -> x.counter(1, 0, 10000, 1));
        refused("counter(1, 0, 1, 0)", -2, x -> x.counter(1, 0, 1, 0));
        refused("counter(1, 0, 1, 65)", -2, x -> x.counter(1, 0, 1, 65));
        refused("source(1, 4)", -2, x -> x.source(1, 4));
        refused("count(1, 31)", -2, x -> x.count(1, 31));
        refused("top(1, 0)", -2, x -> x.top(1, 0));
        refused("top(1, 10000)", -2, x -> x.top(1, 10000));
        refused("input(1, 2)", -2, x -> x.input(1, 2));
        refused("filter(2, 0)", -2, x -> x.filter(2, 0));
        refused("filter(2, 9)", -2, x -> x.filter(2, 9));
        refused("catcher(1, 1, 4, 1)", -2, x -> x.catcher(1, 1, 4, 1));
        refused("catcher(1, 1, 1, 0)", -2, x -> x.catcher(1, 1, 1, 0));
        refused("catcher(1, 1, 1, 5)", -2, x -> x.catcher(1, 1, 1, 5));
        refused("ticks(401)", -2, x -> x.ticks(401));
        refused("channel(1, 1, 5, 1)", -2, x -> x.channel(1, 1, 5, 1));
        refused("channel(1, 1, 1, 10000)", -2, x -> x.channel(1, 1, 1, 10000));
        refused("outputs(1, 21, 0, 0)", -2, x -> x.outputs(1, 21, 0, 0));
        refused("outputs(1, 0, 4, 0)", -2, x -> x.outputs(1, 0, 4, 0));
        refused("outputs(1, 0, 0, 4)", -2, x -> x.outputs(1, 0, 0, 4));
        refused("holds(0, 2)", -2, x -> x.holds(0, 2));
        refused("holds(2, 0)", -1, x -> x.holds(2, 0));
        refused("read(0, 2)", -2, x -> x.read(0, 2));
        refused("read(2, 0)", -1, x -> x.read(2, 0));
        refused("wide(2)", -1, x -> x.wide(2));
        refused("slow(1, 0, 0)", -2, x -> x.slow(1, 0, 0));
        refused("slow(17, 0, 0)", -2, x -> x.slow(17, 0, 0));
        refused("slow(2, 0, 2)", -2, x -> x.slow(2, 0, 2));
    }

    private static void states() {
        due.sentence("STATE (as told); they change nothing.");
        refused("source(0, 2)", -3, x -> x.source(0, 2));
        refused("read(1, 0)", -3, x -> x.read(1, 0));
        refused("read(1, 1)", -3, x -> x.read(1, 1));
        refused("wide(1)", -3, x -> x.wide(1));
    }
}
