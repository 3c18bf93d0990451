/** Terms 3, outputs and PINS: the dead time, POLARITY, SAFE, and when PINS are worked out anew. */
public final class Terms3OutputsTest {
    private static final Due due = new Due("Terms3OutputsTest");

    public static void main(String[] args) {
        sinceAboveDead();
        dead20AndSince99();
        offHasNoOutputOn();
        neverBoth();
        pinOfEachOutput();
        polarityNotBoth();
        brakedShowsSafe();
        brakedTillArmed();
        deadTimeGoesOnWhileBraked();
        anewBehindTick();
        anewBehindBrakeAndArm();
        anewBehindChannel();
        anewBehindOutputs();
        notAnewByOtherCalls();
        due.end();
    }

    private static void sinceAboveDead() {
        due.sentence("Output 0 of a CHANNEL is ON, if its MODE is not 0, it is not BRAKED, LEVEL is 1, and SINCE is "
            + "above DEAD; output 1 likewise with LEVEL 0");
        for (int level = 0; level <= 1; level++) {
            int on = level == 1 ? 1 : 2;
            int pin = level == 1 ? 4 : 5;
            for (int dead = 0; dead <= 20; dead++) {
                ChipTimers x = new ChipTimers();
                x.channel(2, 0, level == 1 ? Rig.BELOW : Rig.ABOVE, 1);
                x.outputs(2, dead, 0, 0);
                due.is("SINCE 0, DEAD " + dead + ": ofChannel(2, 8)", x.ofChannel(2, 8), 0);
                x.ticks(dead);
                due.is("ofChannel(2, 4)", x.ofChannel(2, 4), dead);
                due.is("SINCE is DEAD " + dead + ": ofChannel(2, 8)", x.ofChannel(2, 8), 0);
                due.row("pins", Look.pins(x), new int[8]);
                due.is("many(2)", x.many(2), 0);
                x.ticks(1);
                int[] pins = new int[8];
                pins[pin] = 1;
                due.is("SINCE is above DEAD " + dead + ": ofChannel(2, 8)", x.ofChannel(2, 8), on);
                due.row("pins", Look.pins(x), pins);
                due.is("many(2)", x.many(2), 1);
            }
        }
    }

    private static void dead20AndSince99() {
        due.sentence("SINCE is above DEAD");
        ChipTimers x = Rig.clocked(Rig.UP, 9999, 1);
        x.channel(0, 0, Rig.BELOW, 200);
        x.outputs(0, 20, 0, 0);
        x.ticks(199);
        due.is("SINCE 99: ofChannel(0, 8)", x.ofChannel(0, 8), 1);
        x.ticks(1);
        due.is("SINCE 1: ofChannel(0, 8)", x.ofChannel(0, 8), 0);
        x.ticks(19);
        due.is("SINCE 20: ofChannel(0, 8)", x.ofChannel(0, 8), 0);
        x.ticks(1);
        due.is("SINCE 21: ofChannel(0, 8)", x.ofChannel(0, 8), 2);
    }

    private static void offHasNoOutputOn() {
        due.sentence("Output 0 of a CHANNEL is ON, if its MODE is not 0");
        ChipTimers x = new ChipTimers();
        x.ticks(30);
        for (int k = 0; k < 4; k++) {
            due.is("OFF: ofChannel(" + k + ", 8)", x.ofChannel(k, 8), 0);
        }
        due.row("pins", Look.pins(x), new int[8]);
        x.channel(1, 0, Rig.BELOW, 50);
        x.ticks(1);
        due.is("ofChannel(1, 8)", x.ofChannel(1, 8), 1);
        x.channel(1, 0, Rig.OFF, 50);
        x.ticks(1);
        due.is("OFF again: ofChannel(1, 8)", x.ofChannel(1, 8), 0);
        due.row("pins", Look.pins(x), new int[8]);
    }

    private static void neverBoth() {
        due.sentence("two outputs each that are never on both, with a dead time between");
        for (int mode = 1; mode <= 4; mode++) {
            for (int dead = 0; dead <= 3; dead++) {
                ChipTimers x = Rig.clocked(Rig.UP, 7, 1);
                x.channel(0, 0, mode, 3);
                x.outputs(0, dead, 0, 0);
                int last = 0;
                int apart = 0;
                for (int i = 0; i < 60; i++) {
                    x.ticks(1);
                    int on = x.ofChannel(0, 8);
                    due.holds("at most one output is ON", on != 3);
                    if (on == 0) {
                        apart++;
                    } else {
                        due.holds("DEAD " + dead + " stands between", last == 0 || on == last || apart >= dead);
                        last = on;
                        apart = 0;
                    }
                }
            }
        }
    }

    private static void pinOfEachOutput() {
        due.sentence("PIN 2 k and o is that of output o of CHANNEL k");
        for (int k = 0; k < 4; k++) {
            for (int o = 0; o <= 1; o++) {
                ChipTimers x = new ChipTimers();
                x.channel(k, 0, o == 0 ? Rig.BELOW : Rig.ABOVE, 1);
                x.ticks(1);
                int[] pins = new int[8];
                pins[2 * k + o] = 1;
                due.row("output " + o + " of CHANNEL " + k, Look.pins(x), pins);
            }
        }
    }

    private static void polarityNotBoth() {
        due.sentence("1, if one of both is so: the output is ON, POLARITY has it (not both)");
        for (int k = 0; k < 4; k++) {
            for (int polarity = 0; polarity <= 3; polarity++) {
                for (int on = 0; on <= 2; on++) {
                    ChipTimers x = new ChipTimers();
                    x.channel(k, 0, on == 0 ? Rig.OFF : on == 1 ? Rig.BELOW : Rig.ABOVE, 1);
                    x.outputs(k, 0, polarity, 0);
                    x.ticks(1);
                    due.is("ofChannel(" + k + ", 8)", x.ofChannel(k, 8), on);
                    int[] pins = new int[8];
                    pins[2 * k] = on % 2 == polarity % 2 ? 0 : 1;
                    pins[2 * k + 1] = on / 2 == polarity / 2 ? 0 : 1;
                    due.row("CHANNEL " + k + ", POLARITY " + polarity + ", ON " + on, Look.pins(x), pins);
                }
            }
        }
    }

    private static void brakedShowsSafe() {
        due.sentence("but as long as it is BRAKED 1, if SAFE has the output, else 0");
        for (int safe = 0; safe <= 3; safe++) {
            for (int polarity = 0; polarity <= 3; polarity++) {
                for (int mode = Rig.OFF; mode <= Rig.ABOVE; mode++) {
                    ChipTimers x = new ChipTimers();
                    x.channel(3, 0, mode, 1);
                    x.outputs(3, 0, polarity, safe);
                    x.ticks(1);
                    x.brake();
                    due.row("SAFE " + safe + ", POLARITY " + polarity + ", MODE " + mode, Look.pins(x),
                        0, 0, 0, 0, 0, 0, safe % 2, safe / 2);
                    due.is("ofChannel(3, 8)", x.ofChannel(3, 8), 0);
                    due.is("many(2)", x.many(2), 0);
                }
            }
        }
    }

    private static void brakedTillArmed() {
        due.sentence("as long as it is BRAKED");
        ChipTimers x = new ChipTimers();
        x.channel(0, 0, Rig.BELOW, 1);
        x.outputs(0, 0, 0, 2);
        x.ticks(1);
        x.brake();
        x.ticks(400);
        due.row("TICKS do not arm it", Look.pins(x), 0, 1, 0, 0, 0, 0, 0, 0);
        x.channel(1, 0, Rig.BELOW, 1);
        x.outputs(1, 0, 3, 1);
        x.ticks(1);
        due.row("nor channel() and outputs()", Look.pins(x), 0, 1, 1, 0, 0, 0, 0, 0);
        due.is("brake()", x.brake(), 0);
        due.row("nor another brake()", Look.pins(x), 0, 1, 1, 0, 0, 0, 0, 0);
        due.is("arm()", x.arm(), 1);
        due.row("arm() does", Look.pins(x), 1, 0, 0, 1, 0, 0, 0, 0);
        due.is("many(2)", x.many(2), 2);
        x.ticks(1);
        due.row("and it stays so", Look.pins(x), 1, 0, 0, 1, 0, 0, 0, 0);
    }

    private static void deadTimeGoesOnWhileBraked() {
        due.sentence("SINCE is 1, if LEVEL is another one than ahead of this TICK, else one more");
        ChipTimers x = new ChipTimers();
        x.channel(0, 0, Rig.BELOW, 1);
        x.outputs(0, 5, 0, 0);
        x.brake();
        x.ticks(5);
        due.is("arm()", x.arm(), 1);
        due.is("SINCE is DEAD: ofChannel(0, 8)", x.ofChannel(0, 8), 0);
        x.brake();
        x.ticks(1);
        x.arm();
        due.is("SINCE is above DEAD, without a TICK behind arm(): ofChannel(0, 8)", x.ofChannel(0, 8), 1);
        due.is("pin(0)", x.pin(0), 1);
    }

    private static void anewBehindTick() {
        due.sentence("PINS are worked out anew behind each TICK");
        ChipTimers x = Rig.clocked(Rig.UP, 1, 1);
        x.channel(0, 0, Rig.BELOW, 1);
        x.ticks(4);
        due.is("each of the 4 TICKS of one call changed PINS: many(3)", x.many(3), 7);
        for (int k = 0; k < 3; k++) {
            due.is("record(" + 2 * k + ", 0)", x.record(2 * k, 0), 4 - k);
            due.is("record(" + (2 * k + 1) + ", 0)", x.record(2 * k + 1, 0), 4 - k);
        }
        due.row("record(6, ..)", Look.entry(x, 6), 1, 1, 1);
    }

    private static void anewBehindBrakeAndArm() {
        due.sentence("and behind each brake(), arm(), channel(), outputs() that is not refused");
        ChipTimers x = new ChipTimers();
        x.channel(0, 0, Rig.BELOW, 1);
        x.ticks(1);
        due.is("pin(0)", x.pin(0), 1);
        x.brake();
        due.is("behind brake(): pin(0)", x.pin(0), 0);
        x.arm();
        due.is("behind arm(): pin(0)", x.pin(0), 1);
    }

    private static void anewBehindChannel() {
        due.sentence("behind each [..] channel() [..] that is not refused");
        ChipTimers x = new ChipTimers();
        x.channel(0, 0, Rig.BELOW, 1);
        x.ticks(1);
        due.is("channel(0, 0, 5, 1)", x.channel(0, 0, 5, 1), -2);
        due.is("refused: pin(0)", x.pin(0), 1);
        due.is("channel(0, 0, 1, 1)", x.channel(0, 0, Rig.BELOW, 1), 1);
        due.is("SINCE is 0: pin(0)", x.pin(0), 0);
        due.row("record(0, ..)", Look.entry(x, 0), 1, 0, 0);
    }

    private static void anewBehindOutputs() {
        due.sentence("behind each [..] outputs() that is not refused");
        ChipTimers x = new ChipTimers();
        x.channel(0, 0, Rig.BELOW, 1);
        x.ticks(3);
        due.is("outputs(0, 21, 3, 3)", x.outputs(0, 21, 3, 3), -2);
        due.row("refused", Look.pins(x), 1, 0, 0, 0, 0, 0, 0, 0);
        x.outputs(0, 3, 0, 0);
        due.row("DEAD 3, SINCE 3", Look.pins(x), new int[8]);
        x.outputs(0, 2, 0, 0);
        due.row("DEAD 2, SINCE 3", Look.pins(x), 1, 0, 0, 0, 0, 0, 0, 0);
        x.outputs(0, 2, 3, 0);
        due.row("POLARITY 3", Look.pins(x), 0, 1, 0, 0, 0, 0, 0, 0);
        x.brake();
        x.outputs(0, 2, 3, 1);
        due.row("SAFE 1, BRAKED", Look.pins(x), 1, 0, 0, 0, 0, 0, 0, 0);
    }

    private static void notAnewByOtherCalls() {
        due.sentence("PINS are worked out anew behind each TICK, and behind each brake(), arm(), channel(), outputs()");
        ChipTimers x = new ChipTimers();
        x.channel(0, 0, Rig.BELOW, 5);
        x.ticks(1);
        x.count(0, 9);
        x.counter(0, Rig.DOWN, 9, 2);
        x.count(0, 9);
        x.source(0, Rig.CLOCK);
        x.input(0, 1);
        x.ticks(0);
        due.row("a COUNT that was put changes no PIN", Look.pins(x), 1, 0, 0, 0, 0, 0, 0, 0);
        due.is("ofChannel(0, 3)", x.ofChannel(0, 3), 1);
        due.is("many(3)", x.many(3), 1);
        x.ticks(1);
        due.row("till the next TICK", Look.pins(x), 0, 1, 0, 0, 0, 0, 0, 0);
    }
}
