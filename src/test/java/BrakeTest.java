/** Promises 18 and 19. */
public final class BrakeTest {
    private static final Due due = new Due("BrakeTest");

    public static void main(String[] args) {
        answers();
        brakeMakesSafe();
        safeOfOffChannels();
        levelsGoOnWhileBraked();
        changesWhileBraked();
        due.end();
    }

    private static void answers() {
        ChipTimers x = new ChipTimers();
        due.is("arm()", x.arm(), 0);
        due.is("many(1)", x.many(1), 0);
        due.is("brake()", x.brake(), 1);
        due.is("many(1)", x.many(1), 1);
        due.is("brake()", x.brake(), 0);
        due.is("many(1)", x.many(1), 1);
        x.ticks(400);
        due.is("no TICK arms it: many(1)", x.many(1), 1);
        due.is("arm()", x.arm(), 1);
        due.is("many(1)", x.many(1), 0);
        due.is("arm()", x.arm(), 0);
        due.is("brake()", x.brake(), 1);
    }

    private static ChipTimers running() {
        ChipTimers x = new ChipTimers();
        x.counter(0, 0, 9, 1);
        x.source(0, 1);
        x.channel(0, 0, 1, 5);
        x.outputs(0, 0, 0, 2);
        x.channel(1, 0, 1, 5);
        x.outputs(1, 0, 3, 1);
        x.ticks(2);
        return x;
    }

    private static void brakeMakesSafe() {
        ChipTimers x = running();
        due.row("pins", Look.pins(x), 1, 0, 0, 1, 0, 0, 0, 0);
        due.is("many(2)", x.many(2), 2);
        int entries = x.many(3);
        due.is("brake()", x.brake(), 1);
        due.row("SAFE, whatever POLARITY says", Look.pins(x), 0, 1, 1, 0, 0, 0, 0, 0);
        due.is("many(2)", x.many(2), 0);
        due.is("ofChannel(0, 8)", x.ofChannel(0, 8), 0);
        due.is("many(3)", x.many(3), entries + 4);
        due.row("record(3, ..)", Look.entry(x, 3), 2, 0, 0);
        due.row("record(2, ..)", Look.entry(x, 2), 2, 1, 1);
        due.row("record(1, ..)", Look.entry(x, 1), 2, 2, 1);
        due.row("record(0, ..)", Look.entry(x, 0), 2, 3, 0);
        due.is("brake()", x.brake(), 0);
        due.is("many(3)", x.many(3), entries + 4);
        due.is("arm()", x.arm(), 1);
        due.row("as they were", Look.pins(x), 1, 0, 0, 1, 0, 0, 0, 0);
        due.is("many(3)", x.many(3), entries + 8);
        due.row("record(0, ..)", Look.entry(x, 0), 2, 3, 1);
        due.is("many(2)", x.many(2), 2);
    }

    private static void safeOfOffChannels() {
        ChipTimers x = new ChipTimers();
        x.outputs(3, 0, 1, 2);
        due.row("pins", Look.pins(x), 0, 0, 0, 0, 0, 0, 1, 0);
        x.brake();
        due.row("pins", Look.pins(x), 0, 0, 0, 0, 0, 0, 0, 1);
        x.arm();
        due.row("pins", Look.pins(x), 0, 0, 0, 0, 0, 0, 1, 0);
    }

    private static void levelsGoOnWhileBraked() {
        ChipTimers x = running();
        x.brake();
        x.ticks(4);
        due.row("ofChannel(0, ..)", Look.channel(x, 0), 0, 1, 5, 0, 2, 0, 0, 2, 0);
        due.is("ofCounter(0, 0)", x.ofCounter(0, 0), 6);
        due.row("pins", Look.pins(x), 0, 1, 1, 0, 0, 0, 0, 0);
        x.arm();
        due.row("pins", Look.pins(x), 0, 1, 1, 0, 0, 0, 0, 0);
        due.is("ofChannel(0, 8)", x.ofChannel(0, 8), 2);
    }

    private static void changesWhileBraked() {
        ChipTimers x = running();
        x.brake();
        x.outputs(0, 0, 0, 1);
        due.row("another SAFE", Look.pins(x), 1, 0, 1, 0, 0, 0, 0, 0);
        x.channel(0, 0, 2, 0);
        x.ticks(1);
        due.row("another CHANNEL", Look.pins(x), 1, 0, 1, 0, 0, 0, 0, 0);
        x.outputs(0, 0, 0, 0);
        due.row("no SAFE", Look.pins(x), 0, 0, 1, 0, 0, 0, 0, 0);
        x.arm();
        due.row("armed", Look.pins(x), 1, 0, 0, 1, 0, 0, 0, 0);
    }
}
