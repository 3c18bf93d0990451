import java.util.ArrayList;
import java.util.List;

/** Terms 3, the RECORD: empty, filling, full, and one more; several PINS in one call. */
public final class Terms3RecordTest {
    private static final Due due = new Due("Terms3RecordTest");

    public static void main(String[] args) {
        empty();
        oneEntry();
        onlyAnotherLevel();
        byNumberInOneCall();
        someOfThePinsInOneCall();
        withTheTicksByThen();
        fullAndOneMore();
        severalBeyondFull();
        moreThan24InOneCall();
        nothingEmptiesIt();
        due.end();
    }

    /** One entry more, of PIN 2: its level is 1 and 0 by turns. */
    private static void flip(ChipTimers x) {
        x.outputs(1, 0, 1 - x.pin(2), 0);
    }

    private static void empty() {
        due.sentence("the RECORD is empty [..] NONE: there are not so many");
        ChipTimers x = new ChipTimers();
        due.is("many(3)", x.many(3), 0);
        for (int k = 0; k < 24; k++) {
            due.row("record(" + k + ", ..)", Look.entry(x, k), -9, -9, -9);
        }
    }

    private static void oneEntry() {
        due.sentence("Entry k of the RECORD (0: the last one): the number of TICKS (what 0), the PIN (1), its "
            + "level (2)");
        ChipTimers x = new ChipTimers();
        x.ticks(5);
        x.outputs(3, 0, 2, 0);
        due.is("many(3)", x.many(3), 1);
        due.row("record(0, ..)", Look.entry(x, 0), 5, 7, 1);
        due.row("record(1, ..)", Look.entry(x, 1), -9, -9, -9);
        due.row("record(23, ..)", Look.entry(x, 23), -9, -9, -9);
        x.ticks(1);
        x.outputs(3, 0, 0, 0);
        due.row("record(0, ..)", Look.entry(x, 0), 6, 7, 0);
        due.row("record(1, ..)", Look.entry(x, 1), 5, 7, 1);
        due.row("record(2, ..)", Look.entry(x, 2), -9, -9, -9);
    }

    private static void onlyAnotherLevel() {
        due.sentence("each that becomes another one [..] comes into the RECORD");
        ChipTimers x = new ChipTimers();
        x.ticks(400);
        x.brake();
        x.arm();
        x.channel(0, 0, Rig.BELOW, 9);
        due.is("no PIN became another one: many(3)", x.many(3), 0);
        x.ticks(400);
        due.is("PIN 0 did once: many(3)", x.many(3), 1);
        x.outputs(0, 0, 0, 1);
        x.brake();
        x.brake();
        due.is("it is ON, and is SAFE: many(3)", x.many(3), 1);
        x.arm();
        x.arm();
        due.is("many(3)", x.many(3), 1);
        due.row("record(0, ..)", Look.entry(x, 0), 401, 0, 1);
    }

    private static void byNumberInOneCall() {
        due.sentence("each that becomes another one, by number, comes into the RECORD with the number of TICKS by "
            + "then, its number and level");
        ChipTimers x = new ChipTimers();
        for (int k = 3; k >= 0; k--) {
            x.outputs(k, 0, 0, 3);
        }
        x.ticks(2);
        x.brake();
        due.is("many(3)", x.many(3), 8);
        for (int p = 0; p < 8; p++) {
            due.row("PIN " + p + " by brake()", Look.entry(x, 7 - p), 2, p, 1);
        }
        x.arm();
        due.is("many(3)", x.many(3), 16);
        for (int p = 0; p < 8; p++) {
            due.row("PIN " + p + " by arm()", Look.entry(x, 7 - p), 2, p, 0);
        }
    }

    private static void someOfThePinsInOneCall() {
        due.sentence("each that becomes another one, by number");
        ChipTimers x = new ChipTimers();
        x.outputs(0, 0, 2, 1);
        x.outputs(2, 0, 1, 1);
        x.outputs(3, 0, 1, 2);
        due.is("PINS 1, 4, 6: many(3)", x.many(3), 3);
        x.brake();
        due.is("0 and 1, not 4, 6 and 7: many(3)", x.many(3), 7);
        due.row("record(3, ..)", Look.entry(x, 3), 0, 0, 1);
        due.row("record(2, ..)", Look.entry(x, 2), 0, 1, 0);
        due.row("record(1, ..)", Look.entry(x, 1), 0, 6, 0);
        due.row("record(0, ..)", Look.entry(x, 0), 0, 7, 1);
    }

    private static void withTheTicksByThen() {
        due.sentence("with the number of TICKS by then");
        ChipTimers x = new ChipTimers();
        flip(x);
        due.row("ahead of the first TICK", Look.entry(x, 0), 0, 2, 1);
        x.channel(0, 0, Rig.BELOW, 1);
        x.ticks(1);
        due.row("in the first TICK", Look.entry(x, 0), 1, 0, 1);
        x.ticks(399);
        flip(x);
        due.row("behind TICK 400", Look.entry(x, 0), 400, 2, 0);
    }

    private static void fullAndOneMore() {
        due.sentence("The RECORD keeps the last 24");
        ChipTimers x = new ChipTimers();
        for (int entries = 1; entries <= 60; entries++) {
            x.ticks(1);
            flip(x);
            int kept = Math.min(entries, 24);
            due.is(entries + " entries: many(3)", x.many(3), kept);
            due.is(entries + " entries: record(0, 0)", x.record(0, 0), entries);
            due.is("the oldest: record(" + (kept - 1) + ", 0)", x.record(kept - 1, 0), entries - kept + 1);
            if (kept < 24) {
                due.is("beyond it: record(" + kept + ", 0)", x.record(kept, 0), -9);
            }
        }
        due.is("record(24, 0)", x.record(24, 0), -2);
        for (int k = 0; k < 24; k++) {
            due.row("record(" + k + ", ..)", Look.entry(x, k), 60 - k, 2, k % 2);
        }
    }

    /** 23 entries, then one call that brings eight. */
    private static void severalBeyondFull() {
        due.sentence("The RECORD keeps the last 24");
        ChipTimers x = new ChipTimers();
        for (int i = 0; i < 23; i++) {
            x.ticks(1);
            flip(x);
        }
        x.outputs(1, 0, 1, 2);
        for (int k : new int[] {0, 2, 3}) {
            x.outputs(k, 0, 0, 3);
        }
        due.is("many(3)", x.many(3), 23);
        x.brake();
        due.is("many(3)", x.many(3), 24);
        for (int p = 0; p < 8; p++) {
            due.row("PIN " + p + " by brake()", Look.entry(x, 7 - p), 23, p, p == 2 ? 0 : 1);
        }
        for (int k = 8; k < 24; k++) {
            due.row("record(" + k + ", ..)", Look.entry(x, k), 31 - k, 2, (31 - k) % 2);
        }
    }

    private static void moreThan24InOneCall() {
        due.sentence("The RECORD keeps the last 24");
        ChipTimers x = Rig.clocked(Rig.UP, 1, 1);
        for (int k = 0; k < 4; k++) {
            x.channel(k, 0, Rig.BELOW, 1);
        }
        due.is("ticks(400)", x.ticks(400), 400);
        due.is("many(3)", x.many(3), 24);
        List<int[]> wanted = new ArrayList<>();
        for (int tick = 398; tick <= 400; tick++) {
            for (int p = 0; p < 8; p++) {
                // COUNT is 0 with each even TICK, and BELOW 1 then: output 0 is ON.
                wanted.add(new int[] {tick, p, (tick + p) % 2 == 0 ? 1 : 0});
            }
        }
        for (int k = 0; k < 24; k++) {
            due.row("record(" + k + ", ..)", Look.entry(x, k), wanted.get(23 - k));
        }
    }

    private static void nothingEmptiesIt() {
        due.sentence("The RECORD keeps the last 24");
        ChipTimers x = new ChipTimers();
        flip(x);
        x.ticks(400);
        x.brake();
        x.arm();
        x.channel(1, 0, Rig.OFF, 0);
        x.counter(0, 0, 9, 1);
        x.slow(2, 0, 0);
        due.is("many(3)", x.many(3), 3);
        due.row("record(2, ..)", Look.entry(x, 2), 0, 2, 1);
        due.row("brake()", Look.entry(x, 1), 400, 2, 0);
        due.row("arm()", Look.entry(x, 0), 400, 2, 1);
    }
}
