/** Promise 1, and the constants. */
public final class NewObjectTest {
    public static void main(String[] args) {
        Due due = new Due("NewObjectTest");
        due.is("UNKNOWN", ChipTimers.UNKNOWN, -1);
        due.is("OUTSIDE", ChipTimers.OUTSIDE, -2);
        due.is("STATE", ChipTimers.STATE, -3);
        due.sentence("NONE is -9.");
        due.is("NONE", ChipTimers.NONE, -9);

        due.sentence("TICK 0; all as at first; PAIRS do not HOLD; PERIOD 4, COUNTER 0 is CROSSED, PLAIN; FIRST, SECOND "
            + "are 0; all PINS are 0, the RECORD is empty.");
        ChipTimers x = new ChipTimers();
        for (int k = 0; k < 4; k++) {
            due.row("ofCounter(" + k + ", ..)", Look.counter(x, k), 0, 99, 0, 1, 0, 0, 1, 0, -9);
            due.row("ofInput(" + k + ", ..)", Look.input(x, k), 0, 0, 0, 1);
            due.row("ofCatcher(" + k + ", ..)", Look.catcher(x, k), 0, 0, 1, 0, 0, 0, 0);
            due.row("ofChannel(" + k + ", ..)", Look.channel(x, k), 0, 0, 0, 0, 0, 0, 0, 0, 0);
        }
        due.row("pin(..)", Look.pins(x), 0, 0, 0, 0, 0, 0, 0, 0);
        due.row("crossed(..)", Look.crossed(x), 0, 0, 4, 0, 0);
        due.row("many(..)", Look.many(x), 0, 0, 0, 0, 0, 0);
        for (int k = 0; k < 24; k++) {
            due.row("record(" + k + ", ..)", Look.entry(x, k), -9, -9, -9);
        }
        due.is("holds(0, 0)", x.holds(0, 0), 0);
        due.is("holds(1, 0)", x.holds(1, 0), 0);

        aTickOfANewObject(due);
        objectsShareNothing(due);
        due.end();
    }

    private static void aTickOfANewObject(Due due) {
        ChipTimers x = new ChipTimers();
        due.is("ticks(1)", x.ticks(1), 1);
        for (int k = 0; k < 4; k++) {
            due.row("ofCounter(" + k + ", ..)", Look.counter(x, k), 0, 99, 0, 1, 0, 0, 1, 0, -9);
            due.row("ofInput(" + k + ", ..)", Look.input(x, k), 0, 0, 0, 1);
            due.row("ofCatcher(" + k + ", ..)", Look.catcher(x, k), 0, 0, 1, 0, 0, 0, 0);
            due.row("ofChannel(" + k + ", ..)", Look.channel(x, k), 0, 0, 0, 0, 1, 0, 0, 0, 0);
        }
        due.row("pin(..)", Look.pins(x), 0, 0, 0, 0, 0, 0, 0, 0);
        due.row("many(..)", Look.many(x), 1, 0, 0, 0, 0, 0);
    }

    private static void objectsShareNothing(Due due) {
        ChipTimers x = new ChipTimers();
        x.source(0, 1);
        x.channel(0, 0, 2, 0);
        x.ticks(5);
        x.brake();
        ChipTimers y = new ChipTimers();
        due.row("many(..) of another", Look.many(y), 0, 0, 0, 0, 0, 0);
        due.is("ofCounter(0, 4) of another", y.ofCounter(0, 4), 0);
        due.is("ticks(1) of another", y.ticks(1), 1);
        due.is("ticks(0)", x.ticks(0), 5);
    }
}
