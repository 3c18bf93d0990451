/** Promises 21 to 23. */
public final class PairTest {
    private static final Due due = new Due("PairTest");

    public static void main(String[] args) {
        holdsTellsWhatItDid();
        readRefuses();
        wideRefuses();
        whole();
        aPairThatHolds();
        aPairThatDoesNotHold();
        holdsForgets();
        heldStaysThroughRefusals();
        heldZeroIsHeld();
        pairsAreApart();
        wideCount();
        due.end();
    }

    private static void holdsTellsWhatItDid() {
        ChipTimers x = new ChipTimers();
        due.is("holds(1, 1)", x.holds(1, 1), 0);
        due.is("holds(0, 0)", x.holds(0, 0), 0);
        due.is("holds(1, 1)", x.holds(1, 1), 1);
        due.is("holds(1, 2)", x.holds(1, 2), -2);
        due.is("holds(1, -1)", x.holds(1, -1), -2);
        due.is("holds(2, 0)", x.holds(2, 0), -1);
        due.is("holds(-1, 2)", x.holds(-1, 2), -1);
        due.is("holds(1, 0)", x.holds(1, 0), 1);
        due.is("holds(1, 0)", x.holds(1, 0), 0);
    }

    private static void readRefuses() {
        ChipTimers x = new ChipTimers();
        due.is("read(2, 2)", x.read(2, 2), -1);
        due.is("read(-1, 0)", x.read(-1, 0), -1);
        due.is("read(0, 2)", x.read(0, 2), -2);
        due.is("read(0, -1)", x.read(0, -1), -2);
        due.is("read(0, 0)", x.read(0, 0), -3);
        due.is("read(1, 1)", x.read(1, 1), -3);
    }

    private static void wideRefuses() {
        ChipTimers x = new ChipTimers();
        due.is("wide(2)", x.wide(2), -1);
        due.is("wide(-1)", x.wide(-1), -1);
        due.is("wide(0)", x.wide(0), -3);
        due.is("wide(1)", x.wide(1), -3);
    }

    private static void whole() {
        for (int k = 0; k < 2; k++) {
            ChipTimers x = new ChipTimers();
            int low = 2 * k;
            int high = 2 * k + 1;
            x.source(high, 2);
            due.is("SOURCE 2 of the high one is enough", x.wide(k), 0);
            due.is("the other PAIR", x.wide(1 - k), -3);
            for (int s = 0; s <= 3; s++) {
                x.source(high, s);
                due.is("SOURCE " + s + " of the high one", x.wide(k), s == 2 ? 0 : -3);
                due.is("read", x.read(k, 0), s == 2 ? 0 : -3);
            }
            x.source(high, 2);
            x.counter(high, 0, 99, 2);
            due.is("SHARE 2 of the high one", x.wide(k), -3);
            x.counter(high, 1, 99, 1);
            due.is("a high one that is DOWN", x.wide(k), -3);
            x.counter(high, 2, 99, 1);
            due.is("a high one that is BOTH", x.wide(k), -3);
            x.counter(high, 0, 99, 1);
            x.counter(low, 1, 99, 1);
            due.is("a low one that is DOWN", x.read(k, 1), -3);
            x.counter(low, 2, 99, 1);
            due.is("a low one that is BOTH", x.read(k, 1), -3);
            x.counter(low, 0, 7, 64);
            x.source(low, 3);
            due.is("SHARE and SOURCE of the low one are free", x.read(k, 1), 0);
        }
    }

    private static void aPairThatHolds() {
        ChipTimers x = Rig.wholePair(0, 2);
        x.holds(0, 1);
        x.ticks(5);
        due.is("nothing is HELD yet: read(0, 1)", x.read(0, 1), 1);
        due.is("read(0, 0)", x.read(0, 0), 2);
        x.ticks(1);
        due.is("without a tear: read(0, 1)", x.read(0, 1), 1);
        due.is("nothing is HELD any more: read(0, 1)", x.read(0, 1), 2);
        due.is("read(0, 0)", x.read(0, 0), 0);
        x.ticks(4);
        due.is("read(0, 0)", x.read(0, 0), 1);
        x.ticks(6);
        due.is("the last READ is HELD: read(0, 1)", x.read(0, 1), 3);
        due.is("read(0, 1)", x.read(0, 1), 5);
    }

    private static void aPairThatDoesNotHold() {
        ChipTimers x = Rig.wholePair(1, 2);
        x.ticks(5);
        due.is("read(1, 0)", x.read(1, 0), 2);
        x.ticks(1);
        due.is("a tear: read(1, 1)", x.read(1, 1), 2);
        due.is("read(1, 0)", x.read(1, 0), 0);
        x.ticks(3);
        due.is("holds(1, 1)", x.holds(1, 1), 0);
        due.is("read(1, 1)", x.read(1, 1), 3);
    }

    private static void holdsForgets() {
        ChipTimers x = Rig.wholePair(0, 2);
        x.holds(0, 1);
        x.read(0, 0);
        x.ticks(3);
        due.is("holds(0, 1)", x.holds(0, 1), 1);
        due.is("read(0, 1)", x.read(0, 1), 1);
        x.read(0, 0);
        x.ticks(3);
        due.is("holds(0, 0)", x.holds(0, 0), 1);
        due.is("read(0, 1)", x.read(0, 1), 2);
        due.is("holds(0, 1)", x.holds(0, 1), 0);
        due.is("read(0, 1)", x.read(0, 1), 2);
    }

    private static void heldStaysThroughRefusals() {
        ChipTimers x = Rig.wholePair(0, 2);
        x.holds(0, 1);
        x.ticks(3);
        x.read(0, 0);
        x.ticks(3);
        due.is("holds(0, 2)", x.holds(0, 2), -2);
        due.is("holds(2, 0)", x.holds(2, 0), -1);
        due.is("read(0, 2)", x.read(0, 2), -2);
        x.source(1, 0);
        due.is("read(0, 0)", x.read(0, 0), -3);
        due.is("read(0, 1)", x.read(0, 1), -3);
        x.source(1, 2);
        due.is("read(0, 1)", x.read(0, 1), 1);
        due.is("read(0, 1)", x.read(0, 1), 2);
    }

    private static void heldZeroIsHeld() {
        ChipTimers x = Rig.wholePair(0, 2);
        x.holds(0, 1);
        due.is("read(0, 0)", x.read(0, 0), 0);
        x.ticks(3);
        due.is("read(0, 1)", x.read(0, 1), 0);
        due.is("read(0, 1)", x.read(0, 1), 1);
    }

    private static void pairsAreApart() {
        ChipTimers x = Rig.wholePair(0, 2);
        x.counter(2, 0, 2, 1);
        x.source(2, 1);
        x.source(3, 2);
        x.count(3, 40);
        x.holds(1, 1);
        x.read(0, 0);
        x.read(1, 0);
        x.ticks(3);
        due.is("read(0, 1)", x.read(0, 1), 1);
        due.is("holds(0, 1)", x.holds(0, 1), 0);
        due.is("read(1, 1)", x.read(1, 1), 40);
        due.is("read(1, 1)", x.read(1, 1), 41);
    }

    private static void wideCount() {
        ChipTimers x = Rig.wholePair(1, 2);
        x.ticks(20);
        due.is("wide(1)", x.wide(1), 20);
        x.counter(2, 0, 9999, 1);
        x.counter(3, 0, 9999, 1);
        x.count(2, 9999);
        x.count(3, 9999);
        due.is("wide(1)", x.wide(1), 99999999);
        x.ticks(1);
        due.is("wide(1)", x.wide(1), 0);
        x.top(2, 4);
        x.count(3, 2);
        due.is("a TOP that WAITS does not count: wide(1)", x.wide(1), 20000);
        ChipTimers y = Rig.wholePair(0, 2);
        y.holds(0, 1);
        y.ticks(3);
        y.read(0, 0);
        y.ticks(3);
        due.is("what is HELD does not count: wide(0)", y.wide(0), 6);
        due.is("nor is it taken: read(0, 1)", y.read(0, 1), 1);
    }
}
