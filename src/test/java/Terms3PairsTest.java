/** Terms 3, PAIRS: each way in which one is not whole, and READS with something HELD and with nothing. */
public final class Terms3PairsTest {
    private static final Due due = new Due("Terms3PairsTest");

    public static void main(String[] args) {
        countersOfEachPair();
        wholeByAllThatItTakes();
        notWholeInEachWay();
        lowHalfIsItsCount();
        highHalfWithSomethingHeld();
        highHalfWithNothingHeld();
        highHalfOfAPairThatDoesNotHold();
        lowHalfReadTwice();
        heldAtTheEnds();
        heldOutlivesBeingNotWhole();
        heldStaysThroughEveryOtherCall();
        heldOfCountersSetAnew();
        holdsForgetsWhatIsHeld();
        holdsTellsWhetherItDid();
        eachPairHoldsItsOwn();
        withoutATear();
        due.end();
    }

    private static void countersOfEachPair() {
        due.sentence("PAIRS 0, 1: COUNTERS 2 k (low) and 2 k + 1 (high)");
        for (int k = 0; k < 2; k++) {
            ChipTimers x = new ChipTimers();
            for (int c = 0; c < 4; c++) {
                x.count(c, 30 + c);
            }
            x.source(2 * k + 1, Rig.AHEAD);
            due.is("read(" + k + ", 0)", x.read(k, 0), 30 + 2 * k);
            due.is("read(" + k + ", 1)", x.read(k, 1), 31 + 2 * k);
            due.is("wide(" + k + ")", x.wide(k), (31 + 2 * k) * 100 + 30 + 2 * k);
            due.is("the other one is not whole: read", x.read(1 - k, 0), -3);
        }
        due.is("COUNTERS 1 and 2 are no PAIR: read(2, 0)", new ChipTimers().read(2, 0), -1);
    }

    /** A PAIR told by SOURCE, SHARE and MODE of the high one and MODE, SOURCE and SHARE of the low one. */
    private static ChipTimers pair(int k, int source, int share, int mode, int lowMode, int lowSource, int lowShare) {
        ChipTimers x = new ChipTimers();
        x.counter(2 * k, lowMode, 7, lowShare);
        x.source(2 * k, lowSource);
        x.counter(2 * k + 1, mode, 9, share);
        x.source(2 * k + 1, source);
        return x;
    }

    private static void wholeByAllThatItTakes() {
        due.sentence("whole, if the high one has SOURCE 2 and SHARE 1 and both are UP");
        for (int k = 0; k < 2; k++) {
            for (int lowSource : new int[] {0, 1, 3}) {
                for (int lowShare : new int[] {1, 2, 64}) {
                    ChipTimers x = pair(k, 2, 1, Rig.UP, Rig.UP, lowSource, lowShare);
                    String told = "low SOURCE " + lowSource + ", SHARE " + lowShare;
                    due.is(told + ": read(" + k + ", 0)", x.read(k, 0), 0);
                    due.is(told + ": read(" + k + ", 1)", x.read(k, 1), 0);
                    due.is(told + ": wide(" + k + ")", x.wide(k), 0);
                }
            }
        }
        due.is("a low one that has one ahead: wide(1)", pair(1, 2, 1, Rig.UP, Rig.UP, 2, 1).wide(1), 0);
    }

    private static void notWholeInEachWay() {
        due.sentence("STATE: it is not whole");
        for (int k = 0; k < 2; k++) {
            notWhole("SOURCE 0", k, pair(k, 0, 1, Rig.UP, Rig.UP, 1, 1));
            notWhole("SOURCE 1", k, pair(k, 1, 1, Rig.UP, Rig.UP, 1, 1));
            notWhole("SOURCE 3", k, pair(k, 3, 1, Rig.UP, Rig.UP, 1, 1));
            notWhole("SHARE 2", k, pair(k, 2, 2, Rig.UP, Rig.UP, 1, 1));
            notWhole("SHARE 64", k, pair(k, 2, 64, Rig.UP, Rig.UP, 1, 1));
            notWhole("high DOWN", k, pair(k, 2, 1, Rig.DOWN, Rig.UP, 1, 1));
            notWhole("high BOTH", k, pair(k, 2, 1, Rig.BOTH, Rig.UP, 1, 1));
            notWhole("low DOWN", k, pair(k, 2, 1, Rig.UP, Rig.DOWN, 1, 1));
            notWhole("low BOTH", k, pair(k, 2, 1, Rig.UP, Rig.BOTH, 1, 1));
        }
        notWhole("as it is at first", 0, new ChipTimers());
        notWhole("as it is at first", 1, new ChipTimers());
    }

    private static void notWhole(String told, int k, ChipTimers x) {
        due.is(told + ": read(" + k + ", 0)", x.read(k, 0), -3);
        due.is(told + ": read(" + k + ", 1)", x.read(k, 1), -3);
        due.is(told + ": wide(" + k + ")", x.wide(k), -3);
        due.is(told + ": holds(" + k + ", 1) needs no whole one", x.holds(k, 1), 0);
        due.is(told + ": holds(" + k + ", 0)", x.holds(k, 0), 1);
    }

    private static void lowHalfIsItsCount() {
        due.sentence("A READ of the low half is its COUNT");
        for (int holding = 0; holding <= 1; holding++) {
            ChipTimers x = Rig.wholePair(0, 2);
            x.holds(0, holding);
            int[] wanted = {1, 2, 0, 1, 2, 0};
            for (int i = 0; i < 6; i++) {
                x.ticks(1);
                due.is("HOLDS " + holding + ": read(0, 0)", x.read(0, 0), wanted[i]);
                due.is("again: read(0, 0)", x.read(0, 0), wanted[i]);
            }
        }
    }

    private static void highHalfWithSomethingHeld() {
        due.sentence("one of the high half is what is HELD, if it is a PAIR that HOLDS and something is HELD (nothing "
            + "is HELD any more then)");
        for (int k = 0; k < 2; k++) {
            ChipTimers x = Rig.wholePair(k, 1);
            x.holds(k, 1);
            x.ticks(10);
            due.is("read(" + k + ", 0)", x.read(k, 0), 0);
            x.ticks(20);
            due.is("HELD: read(" + k + ", 1)", x.read(k, 1), 5);
            due.is("HELD no more: read(" + k + ", 1)", x.read(k, 1), 15);
            x.ticks(2);
            due.is("nor later: read(" + k + ", 1)", x.read(k, 1), 16);
        }
    }

    private static void highHalfWithNothingHeld() {
        due.sentence("else the COUNT of the high one");
        ChipTimers x = Rig.wholePair(0, 1);
        x.holds(0, 1);
        due.is("nothing was READ: read(0, 1)", x.read(0, 1), 0);
        x.ticks(6);
        due.is("a READ of the high half keeps nothing: read(0, 1)", x.read(0, 1), 3);
        x.ticks(2);
        due.is("read(0, 1)", x.read(0, 1), 4);
        x.wide(0);
        x.ticks(2);
        due.is("nor does wide(): read(0, 1)", x.read(0, 1), 5);
    }

    private static void highHalfOfAPairThatDoesNotHold() {
        due.sentence("if it is a PAIR that HOLDS [..] else the COUNT of the high one");
        ChipTimers x = Rig.wholePair(0, 1);
        due.is("read(0, 0)", x.read(0, 0), 0);
        x.ticks(2);
        due.is("read(0, 1)", x.read(0, 1), 1);
        x.holds(0, 1);
        x.holds(0, 0);
        due.is("read(0, 0)", x.read(0, 0), 0);
        x.ticks(2);
        due.is("behind holds(0, 0): read(0, 1)", x.read(0, 1), 2);
    }

    private static void lowHalfReadTwice() {
        due.sentence("A READ of the low half is its COUNT, and keeps the COUNT of the high one (HELD)");
        ChipTimers x = Rig.wholePair(0, 1);
        x.holds(0, 1);
        x.read(0, 0);
        x.ticks(4);
        x.read(0, 0);
        x.ticks(4);
        due.is("the newest is HELD: read(0, 1)", x.read(0, 1), 2);
        due.is("and no other: read(0, 1)", x.read(0, 1), 4);
    }

    private static void heldAtTheEnds() {
        due.sentence("something is HELD");
        ChipTimers zero = Rig.wholePair(1, 1);
        zero.holds(1, 1);
        zero.read(1, 0);
        zero.ticks(2);
        due.is("0 is something: read(1, 1)", zero.read(1, 1), 0);
        due.is("read(1, 1)", zero.read(1, 1), 1);
        ChipTimers most = Rig.wholePair(1, 1);
        most.counter(3, Rig.UP, 9999, 1);
        most.count(3, 9999);
        most.holds(1, 1);
        most.read(1, 0);
        most.ticks(2);
        due.is("the greatest COUNT, and the high one went OVER: read(1, 1)", most.read(1, 1), 9999);
        due.is("read(1, 1)", most.read(1, 1), 0);
    }

    private static void heldOutlivesBeingNotWhole() {
        due.sentence("they change nothing [..] STATE: it is not whole");
        ChipTimers x = Rig.wholePair(0, 1);
        x.holds(0, 1);
        x.ticks(2);
        x.read(0, 0);
        x.ticks(2);
        x.source(1, 1);
        due.is("read(0, 0)", x.read(0, 0), -3);
        due.is("read(0, 1)", x.read(0, 1), -3);
        x.source(1, 2);
        due.is("read(0, 1)", x.read(0, 1), 1);
        due.is("read(0, 1)", x.read(0, 1), 2);
    }

    private interface Change {
        void of(ChipTimers x);
    }

    /** 3 is HELD and the high COUNT is 5 then; the change leaves the PAIR whole, with this high COUNT. */
    private static void stillHeld(String told, int high, Change change) {
        due.sentence("one of the high half is what is HELD, if it is a PAIR that HOLDS and something is HELD (nothing "
            + "is HELD any more then)");
        for (int k = 0; k < 2; k++) {
            ChipTimers x = Rig.wholePair(k, 1);
            x.holds(k, 1);
            x.ticks(6);
            x.read(k, 0);
            x.ticks(4);
            x.source(2 * k, 0);
            change.of(x);
            due.is("HELD behind " + told + ": read(" + k + ", 1)", x.read(k, 1), 3);
            due.is("HELD no more: read(" + k + ", 1)", x.read(k, 1), high);
        }
    }

    /** Only a READ of the high half and holds() are said to end it. */
    private static void heldStaysThroughEveryOtherCall() {
        stillHeld("ticks()", 5, x -> x.ticks(400));
        stillHeld("wide()", 5, x -> {
            x.wide(0);
            x.wide(1);
        });
        stillHeld("top()", 5, x -> {
            for (int c = 0; c < 4; c++) {
                x.top(c, 50);
            }
        });
        stillHeld("brake() and arm()", 5, x -> {
            x.brake();
            x.arm();
        });
        stillHeld("calls of INPUTS, CATCHERS, CHANNELS", 5, x -> {
            for (int k = 0; k < 4; k++) {
                x.input(k, 1);
                x.filter(k, 2);
                x.catcher(k, k, 3, 1);
                x.taken(k);
                x.channel(k, k, 1, 1);
                x.outputs(k, 1, 1, 1);
            }
        });
        stillHeld("slow()", 5, x -> x.slow(2, 1, 1));
        stillHeld("all that only tells", 5, Look::all);
        stillHeld("refused calls", 5, x -> {
            for (int k = -1; k <= 2; k++) {
                x.holds(k, 2);
                x.read(k, -1);
            }
        });
    }

    private static void heldOfCountersSetAnew() {
        stillHeld("count()", 7, x -> {
            for (int c = 1; c < 4; c += 2) {
                x.count(c, 7);
            }
        });
        stillHeld("counter()", 0, x -> {
            for (int c = 0; c < 4; c++) {
                x.counter(c, Rig.UP, 2, 1);
            }
        });
        stillHeld("counter() that made it not whole for a while", 0, x -> {
            for (int c = 1; c < 4; c += 2) {
                x.counter(c, Rig.DOWN, 2, 4);
                x.read(c / 2, 1);
                x.counter(c, Rig.UP, 2, 1);
            }
        });
        stillHeld("source() that made it not whole for a while", 5, x -> {
            for (int c = 1; c < 4; c += 2) {
                x.source(c, 0);
                x.read(c / 2, 0);
                x.read(c / 2, 1);
                x.source(c, Rig.AHEAD);
            }
        });
    }

    private static void holdsForgetsWhatIsHeld() {
        due.sentence("A PAIR HOLDS (v 1), or does not (0) [..] nothing is HELD by it then");
        ChipTimers again = Rig.wholePair(0, 1);
        again.holds(0, 1);
        again.read(0, 0);
        again.ticks(2);
        due.is("holds(0, 1)", again.holds(0, 1), 1);
        due.is("read(0, 1)", again.read(0, 1), 1);
        ChipTimers offAndOn = Rig.wholePair(0, 1);
        offAndOn.holds(0, 1);
        offAndOn.read(0, 0);
        offAndOn.ticks(2);
        due.is("holds(0, 0)", offAndOn.holds(0, 0), 1);
        due.is("holds(0, 1)", offAndOn.holds(0, 1), 0);
        due.is("read(0, 1)", offAndOn.read(0, 1), 1);
        ChipTimers readAhead = Rig.wholePair(0, 1);
        readAhead.read(0, 0);
        readAhead.ticks(2);
        due.is("holds(0, 1)", readAhead.holds(0, 1), 0);
        due.is("a READ ahead of it: read(0, 1)", readAhead.read(0, 1), 1);
        ChipTimers refused = Rig.wholePair(0, 1);
        refused.holds(0, 1);
        refused.read(0, 0);
        refused.ticks(2);
        due.is("holds(0, 2)", refused.holds(0, 2), -2);
        due.is("refused: read(0, 1)", refused.read(0, 1), 0);
    }

    private static void holdsTellsWhetherItDid() {
        due.sentence("whether it did (1, 0)");
        for (int k = 0; k < 2; k++) {
            ChipTimers x = new ChipTimers();
            int[] put = {0, 1, 1, 0, 0, 1, 0};
            int did = 0;
            for (int v : put) {
                due.is("holds(" + k + ", " + v + ")", x.holds(k, v), did);
                did = v;
            }
            due.is("the other one never did", x.holds(1 - k, 0), 0);
        }
    }

    private static void eachPairHoldsItsOwn() {
        due.sentence("nothing is HELD by it then");
        ChipTimers x = Rig.wholePair(0, 1);
        x.counter(2, Rig.UP, 1, 1);
        x.source(2, Rig.CLOCK);
        x.source(3, Rig.AHEAD);
        x.count(3, 50);
        x.holds(0, 1);
        x.holds(1, 1);
        x.read(0, 0);
        x.read(1, 0);
        x.ticks(2);
        due.is("read(0, 1)", x.read(0, 1), 0);
        due.is("holds(0, 1)", x.holds(0, 1), 1);
        due.is("PAIR 1 has its own still: read(1, 1)", x.read(1, 1), 50);
        due.is("read(1, 1)", x.read(1, 1), 51);
    }

    /** Some TICKS pass between the halves; both together are always the wide COUNT of the first READ. */
    private static void withoutATear() {
        due.sentence("a wide count read in halves without a tear");
        ChipTimers x = Rig.wholePair(0, 2);
        x.holds(0, 1);
        for (int i = 0; i < 60; i++) {
            int wide = x.wide(0);
            int low = x.read(0, 0);
            x.ticks(1 + i % 4);
            due.is("both halves", x.read(0, 1) * 3 + low, wide);
        }
    }
}
