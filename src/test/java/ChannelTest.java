/** Promises 14 to 17, and how CHANNELS go in a TICK. */
public final class ChannelTest {
    private static final Due due = new Due("ChannelTest");

    public static void main(String[] args) {
        channelStartsAnew();
        edgesOfChannel();
        edgesOfOutputs();
        outputsLeaveLevelAndSince();
        ofChannelRefuses();
        pinRefuses();
        levelsByMode();
        onlyStepsTurn();
        ofItsOwnCounter();
        sinceEndsAt99();
        deadTime();
        deadTimeChangedAtOnce();
        neverBothOn();
        polarity();
        pinsOfEachChannel();
        pinsChangeWithoutATick();
        countAloneChangesNoPin();
        due.end();
    }

    /** What of a CHANNEL behind each of n TICKS. */
    private static int[] told(ChipTimers x, int k, int what, int n) {
        int[] row = new int[n];
        for (int i = 0; i < n; i++) {
            x.ticks(1);
            row[i] = x.ofChannel(k, what);
        }
        return row;
    }

    private static void channelStartsAnew() {
        ChipTimers x = Rig.clocked(0, 9, 1);
        x.channel(2, 0, 2, 1);
        x.outputs(2, 3, 1, 2);
        x.ticks(5);
        due.row("ofChannel(2, ..)", Look.channel(x, 2), 0, 2, 1, 1, 5, 3, 1, 2, 1);
        due.is("channel(2, 3, 1, 9)", x.channel(2, 3, 1, 9), 1);
        due.row("DEAD, POLARITY, SAFE stay", Look.channel(x, 2), 3, 1, 9, 0, 0, 3, 1, 2, 0);
    }

    private static void edgesOfChannel() {
        ChipTimers x = new ChipTimers();
        due.is("channel(3, 3, 4, 9999)", x.channel(3, 3, 4, 9999), 1);
        due.row("ofChannel(3, ..)", Look.channel(x, 3), 3, 4, 9999, 0, 0, 0, 0, 0, 0);
        due.is("channel(4, 0, 0, 0)", x.channel(4, 0, 0, 0), -1);
        due.is("channel(-1, 0, 0, 0)", x.channel(-1, 0, 0, 0), -1);
        due.is("channel(0, 4, 0, 0)", x.channel(0, 4, 0, 0), -1);
        due.is("channel(0, -1, 5, -1)", x.channel(0, -1, 5, -1), -1);
        due.is("channel(0, 0, 5, 0)", x.channel(0, 0, 5, 0), -2);
        due.is("channel(0, 0, -1, 0)", x.channel(0, 0, -1, 0), -2);
        due.is("channel(0, 0, 0, -1)", x.channel(0, 0, 0, -1), -2);
        due.is("channel(0, 0, 0, 10000)", x.channel(0, 0, 0, 10000), -2);
        due.is("a MARK above TOP is fine: channel(0, 0, 1, 100)", x.channel(0, 0, 1, 100), 1);
        due.is("channel(0, 0, 0, 0)", x.channel(0, 0, 0, 0), 1);
    }

    private static void edgesOfOutputs() {
        ChipTimers x = new ChipTimers();
        due.is("outputs(3, 20, 3, 3)", x.outputs(3, 20, 3, 3), 1);
        due.row("ofChannel(3, ..)", Look.channel(x, 3), 0, 0, 0, 0, 0, 20, 3, 3, 0);
        due.is("outputs(4, 0, 0, 0)", x.outputs(4, 0, 0, 0), -1);
        due.is("outputs(-1, 21, 0, 0)", x.outputs(-1, 21, 0, 0), -1);
        due.is("outputs(0, 21, 0, 0)", x.outputs(0, 21, 0, 0), -2);
        due.is("outputs(0, -1, 0, 0)", x.outputs(0, -1, 0, 0), -2);
        due.is("outputs(0, 0, 4, 0)", x.outputs(0, 0, 4, 0), -2);
        due.is("outputs(0, 0, -1, 0)", x.outputs(0, 0, -1, 0), -2);
        due.is("outputs(0, 0, 0, 4)", x.outputs(0, 0, 0, 4), -2);
        due.is("outputs(0, 0, 0, -1)", x.outputs(0, 0, 0, -1), -2);
        due.row("ofChannel(0, ..)", Look.channel(x, 0), 0, 0, 0, 0, 0, 0, 0, 0, 0);
        due.is("outputs(0, 0, 0, 0)", x.outputs(0, 0, 0, 0), 1);
    }

    private static void outputsLeaveLevelAndSince() {
        ChipTimers x = Rig.clocked(0, 9, 1);
        x.channel(0, 0, 2, 1);
        x.ticks(3);
        x.outputs(0, 1, 0, 0);
        due.row("ofChannel(0, ..)", Look.channel(x, 0), 0, 2, 1, 1, 3, 1, 0, 0, 1);
    }

    private static void ofChannelRefuses() {
        ChipTimers x = new ChipTimers();
        due.is("ofChannel(4, 0)", x.ofChannel(4, 0), -1);
        due.is("ofChannel(-1, 9)", x.ofChannel(-1, 9), -1);
        due.is("ofChannel(0, 9)", x.ofChannel(0, 9), -2);
        due.is("ofChannel(0, -1)", x.ofChannel(0, -1), -2);
    }

    private static void pinRefuses() {
        ChipTimers x = new ChipTimers();
        due.is("pin(7)", x.pin(7), 0);
        due.is("pin(8)", x.pin(8), -2);
        due.is("pin(-1)", x.pin(-1), -2);
    }

    private static void levelsByMode() {
        ChipTimers off = Rig.clocked(0, 3, 1);
        off.channel(0, 0, 0, 2);
        due.row("OFF", told(off, 0, 3, 6), 0, 0, 0, 0, 0, 0);
        due.row("OFF, too, has SINCE", Look.channel(off, 0), 0, 0, 2, 0, 6, 0, 0, 0, 0);
        ChipTimers below = Rig.clocked(0, 3, 1);
        below.channel(0, 0, 1, 2);
        due.row("BELOW", told(below, 0, 3, 6), 1, 0, 0, 1, 1, 0);
        ChipTimers above = Rig.clocked(0, 3, 1);
        above.channel(0, 0, 2, 2);
        due.row("ABOVE", told(above, 0, 3, 6), 0, 1, 1, 0, 0, 1);
        ChipTimers turning = Rig.clocked(0, 3, 1);
        turning.channel(0, 0, 3, 2);
        due.row("TURNING", told(turning, 0, 3, 10), 0, 1, 1, 1, 1, 0, 0, 0, 0, 1);
        ChipTimers once = Rig.clocked(0, 3, 1);
        once.channel(0, 0, 4, 2);
        due.row("ONCE", told(once, 0, 3, 7), 0, 1, 1, 1, 1, 1, 1);
        once.channel(0, 0, 4, 2);
        due.row("ONCE, again", told(once, 0, 3, 4), 0, 0, 1, 1);
        ChipTimers never = Rig.clocked(0, 3, 1);
        never.channel(0, 0, 1, 0);
        due.row("BELOW 0", told(never, 0, 3, 4), 0, 0, 0, 0);
        ChipTimers always = Rig.clocked(0, 3, 1);
        always.channel(0, 0, 2, 0);
        due.row("ABOVE 0", told(always, 0, 3, 4), 1, 1, 1, 1);
    }

    private static void onlyStepsTurn() {
        ChipTimers x = new ChipTimers();
        x.counter(0, 0, 9, 3);
        x.source(0, 1);
        x.count(0, 4);
        x.channel(0, 0, 3, 5);
        x.channel(1, 0, 4, 4);
        due.row("one STEP alone turns", told(x, 0, 3, 7), 0, 0, 1, 1, 1, 1, 1);
        due.is("a COUNT that was put is no STEP: ofChannel(1, 3)", x.ofChannel(1, 3), 0);
        x.source(0, 0);
        x.count(0, 5);
        x.ticks(3);
        due.is("nor is a TICK without a PULSE: ofChannel(0, 3)", x.ofChannel(0, 3), 1);
    }

    private static void ofItsOwnCounter() {
        ChipTimers x = Rig.clocked(0, 9, 1);
        x.counter(2, 0, 9, 1);
        x.count(2, 7);
        x.channel(1, 2, 2, 7);
        x.channel(2, 0, 2, 7);
        x.channel(3, 2, 4, 1);
        x.ticks(1);
        due.is("ofChannel(1, 3)", x.ofChannel(1, 3), 1);
        due.is("ofChannel(2, 3)", x.ofChannel(2, 3), 0);
        due.is("ofChannel(3, 3)", x.ofChannel(3, 3), 0);
    }

    private static void sinceEndsAt99() {
        ChipTimers x = new ChipTimers();
        x.ticks(98);
        due.is("ofChannel(1, 4)", x.ofChannel(1, 4), 98);
        x.ticks(1);
        due.is("ofChannel(1, 4)", x.ofChannel(1, 4), 99);
        x.ticks(1);
        due.is("ofChannel(1, 4)", x.ofChannel(1, 4), 99);
        x.channel(1, 0, 2, 0);
        x.ticks(1);
        due.is("another LEVEL: ofChannel(1, 4)", x.ofChannel(1, 4), 1);
    }

    private static void deadTime() {
        ChipTimers x = Rig.clocked(0, 9, 1);
        x.channel(0, 0, 1, 5);
        x.outputs(0, 2, 0, 0);
        due.row("the set that is ON", told(x, 0, 8, 16), 0, 0, 1, 1, 0, 0, 2, 2, 2, 0, 0, 1, 1, 1, 0, 0);
        ChipTimers y = Rig.clocked(0, 99, 1);
        y.channel(0, 0, 1, 30);
        y.outputs(0, 20, 0, 0);
        y.ticks(20);
        due.is("SINCE 20 is not above DEAD 20: ofChannel(0, 8)", y.ofChannel(0, 8), 0);
        y.ticks(1);
        due.is("ofChannel(0, 8)", y.ofChannel(0, 8), 1);
        due.is("many(2)", y.many(2), 1);
    }

    private static void deadTimeChangedAtOnce() {
        ChipTimers x = Rig.clocked(0, 99, 1);
        x.channel(0, 0, 1, 50);
        x.ticks(3);
        due.is("ofChannel(0, 8)", x.ofChannel(0, 8), 1);
        x.outputs(0, 3, 0, 0);
        due.is("ofChannel(0, 8)", x.ofChannel(0, 8), 0);
        due.is("pin(0)", x.pin(0), 0);
        x.outputs(0, 2, 0, 0);
        due.is("ofChannel(0, 8)", x.ofChannel(0, 8), 1);
        due.is("pin(0)", x.pin(0), 1);
    }

    private static void neverBothOn() {
        for (int mode = 0; mode <= 4; mode++) {
            ChipTimers x = Rig.clocked(0, 3, 1);
            x.channel(0, 0, mode, 2);
            for (int i = 0; i < 50; i++) {
                x.ticks(1);
                int on = x.ofChannel(0, 8);
                due.holds("MODE " + mode + " has at most one output ON", on == 0 || on == 1 || on == 2);
                due.is("pin(0)", x.pin(0), on & 1);
                due.is("pin(1)", x.pin(1), on >> 1);
                due.is("DEAD 0 leaves one ON, unless OFF", on == 0 ? 0 : 1, mode == 0 ? 0 : 1);
            }
        }
    }

    private static void polarity() {
        ChipTimers x = Rig.clocked(0, 9, 1);
        x.outputs(0, 0, 3, 0);
        due.row("an OFF channel, both turned over", Look.pins(x), 1, 1, 0, 0, 0, 0, 0, 0);
        x.outputs(0, 0, 2, 0);
        due.row("one of both", Look.pins(x), 0, 1, 0, 0, 0, 0, 0, 0);
        x.channel(0, 0, 1, 2);
        x.ticks(1);
        due.row("0 ON, 1 turned over", Look.pins(x), 1, 1, 0, 0, 0, 0, 0, 0);
        x.ticks(1);
        due.row("1 ON, 1 turned over", Look.pins(x), 0, 0, 0, 0, 0, 0, 0, 0);
        x.outputs(0, 0, 1, 0);
        due.row("1 ON, 0 turned over", Look.pins(x), 1, 1, 0, 0, 0, 0, 0, 0);
        due.is("POLARITY turns no output ON: ofChannel(0, 8)", x.ofChannel(0, 8), 2);
    }

    private static void pinsOfEachChannel() {
        for (int k = 0; k < 4; k++) {
            int[] first = new int[8];
            first[2 * k] = 1;
            int[] second = new int[8];
            second[2 * k + 1] = 1;
            ChipTimers x = Rig.clocked(0, 9, 1);
            x.channel(k, 0, 1, 2);
            x.ticks(1);
            due.row("CHANNEL " + k + ", LEVEL 1", Look.pins(x), first);
            x.ticks(1);
            due.row("CHANNEL " + k + ", LEVEL 0", Look.pins(x), second);
        }
    }

    private static void pinsChangeWithoutATick() {
        ChipTimers x = Rig.clocked(0, 9, 1);
        x.channel(1, 0, 2, 0);
        x.ticks(4);
        due.is("pin(2)", x.pin(2), 1);
        x.channel(1, 0, 2, 0);
        due.is("pin(2) behind channel()", x.pin(2), 0);
        due.row("record(0, ..)", Look.entry(x, 0), 4, 2, 0);
        x.outputs(1, 0, 2, 0);
        due.is("pin(3) behind outputs()", x.pin(3), 1);
        due.row("record(0, ..)", Look.entry(x, 0), 4, 3, 1);
        due.is("many(3)", x.many(3), 3);
    }

    private static void countAloneChangesNoPin() {
        ChipTimers x = Rig.clocked(0, 9, 1);
        x.channel(0, 0, 1, 5);
        x.ticks(1);
        x.count(0, 8);
        due.is("ofChannel(0, 3)", x.ofChannel(0, 3), 1);
        due.is("pin(0)", x.pin(0), 1);
        x.counter(0, 0, 9, 1);
        x.count(0, 8);
        x.ticks(1);
        due.is("ofChannel(0, 3)", x.ofChannel(0, 3), 0);
        due.is("pin(0)", x.pin(0), 0);
    }
}
