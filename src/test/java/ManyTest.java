/** Promise 26. */
public final class ManyTest {
    private static final Due due = new Due("ManyTest");

    public static void main(String[] args) {
        ChipTimers x = new ChipTimers();
        due.is("many(6)", x.many(6), -2);
        due.is("many(-1)", x.many(-1), -2);
        for (int k = 0; k < 4; k++) {
            x.counter(k, 0, k + 1, 1);
            x.source(k, 1);
            x.catcher(k, 0, 1, 1);
            x.channel(k, k, 1, 1);
        }
        x.input(1, 1);
        x.input(2, 1);
        x.input(3, 1);
        x.ticks(12);
        due.row("many(..)", Look.many(x), 12, 0, 4, 24, 3, 6 + 4 + 3 + 2);
        x.taken(2);
        x.outputs(2, 20, 0, 0);
        x.counter(0, 0, 5, 1);
        due.row("many(..)", Look.many(x), 12, 0, 3, 24, 2, 4 + 3 + 2);
        x.brake();
        due.row("many(..)", Look.many(x), 12, 1, 0, 24, 2, 4 + 3 + 2);
        x.arm();
        x.channel(3, 0, 0, 0);
        x.catcher(1, 0, 1, 1);
        due.row("many(..)", Look.many(x), 12, 0, 2, 24, 1, 4 + 3 + 2);
        catchersReadyOneByOne();
        due.end();
    }

    private static void catchersReadyOneByOne() {
        ChipTimers x = new ChipTimers();
        for (int k = 0; k < 4; k++) {
            x.catcher(k, 0, 1, 1);
            x.input(k, 1);
            x.ticks(1);
            due.is("many(4)", x.many(4), k + 1);
        }
    }
}
