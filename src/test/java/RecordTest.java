/** Promise 20. */
public final class RecordTest {
    private static final Due due = new Due("RecordTest");

    public static void main(String[] args) {
        refuses();
        lastOneFirst();
        byNumberOfPin();
        keepsTheLast24();
        onlyChanges();
        due.end();
    }

    private static void refuses() {
        ChipTimers x = new ChipTimers();
        due.is("record(24, 0)", x.record(24, 0), -2);
        due.is("record(-1, 0)", x.record(-1, 0), -2);
        due.is("record(0, 3)", x.record(0, 3), -2);
        due.is("record(0, -1)", x.record(0, -1), -2);
        due.is("record(23, 2)", x.record(23, 2), -9);
        due.is("record(23, 3)", x.record(23, 3), -2);
        x.outputs(0, 0, 1, 0);
        due.is("record(0, 3)", x.record(0, 3), -2);
        due.is("record(0, -1)", x.record(0, -1), -2);
        due.is("record(1, 0)", x.record(1, 0), -9);
    }

    private static void lastOneFirst() {
        ChipTimers x = new ChipTimers();
        x.ticks(3);
        x.outputs(2, 0, 2, 0);
        x.ticks(4);
        x.outputs(2, 0, 0, 0);
        due.row("record(0, ..)", Look.entry(x, 0), 7, 5, 0);
        due.row("record(1, ..)", Look.entry(x, 1), 3, 5, 1);
        due.row("record(2, ..)", Look.entry(x, 2), -9, -9, -9);
        due.is("many(3)", x.many(3), 2);
    }

    private static void byNumberOfPin() {
        ChipTimers x = new ChipTimers();
        x.source(0, 1);
        for (int k = 3; k >= 0; k--) {
            x.channel(k, 0, 2, 2);
        }
        x.ticks(2);
        due.is("many(3)", x.many(3), 12);
        for (int k = 0; k < 4; k++) {
            due.row("first TICK", Look.entry(x, 11 - k), 1, 2 * k + 1, 1);
        }
        for (int p = 0; p < 8; p++) {
            due.row("second TICK", Look.entry(x, 7 - p), 2, p, p % 2 == 0 ? 1 : 0);
        }
    }

    private static void keepsTheLast24() {
        for (int changes = 22; changes <= 60; changes++) {
            ChipTimers x = new ChipTimers();
            for (int i = 1; i <= changes; i++) {
                x.ticks(1);
                x.outputs(1, 0, i % 2, 0);
            }
            int kept = Math.min(changes, 24);
            due.is("many(3)", x.many(3), kept);
            for (int k = 0; k < kept; k++) {
                int tick = changes - k;
                due.row("record(" + k + ", ..)", Look.entry(x, k), tick, 2, tick % 2);
            }
            for (int k = kept; k < 24; k++) {
                due.row("record(" + k + ", ..)", Look.entry(x, k), -9, -9, -9);
            }
        }
    }

    private static void onlyChanges() {
        ChipTimers x = new ChipTimers();
        x.outputs(0, 0, 3, 3);
        due.is("many(3)", x.many(3), 2);
        x.outputs(0, 0, 3, 3);
        x.brake();
        x.arm();
        x.ticks(50);
        due.is("many(3)", x.many(3), 2);
        due.is("outputs(0, 0, 0, 4)", x.outputs(0, 0, 0, 4), -2);
        due.is("many(3)", x.many(3), 2);
    }
}
