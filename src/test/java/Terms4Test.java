/** Terms 4, and the SLOW clock of Terms 2: when it samples, and SAMPLES where no bit changes, one, or many. */
public final class Terms4Test {
    private static final Due due = new Due("Terms4Test");

    public static void main(String[] args) {
        firstTickIsNumberOne();
        ticksDividedByPeriod();
        periodsSetOnTheWay();
        secondIsFirst();
        aheadOfThisTickAndNow();
        plainWhereBothAreTheSame();
        plainWhereOneBitChanges();
        plainWhereManyChange();
        plainOver();
        twistedWhereBothAreTheSame();
        twistedWhereOneBitChanges();
        twistedWhereManyBitsOfTheCountChange();
        twistedOver();
        twistedDown();
        twistedIsNeverFarOff();
        sampleOfTheCounterThatIsCrossed();
        countsBelow16384();
        due.end();
    }

    /** FIRST behind a TICK in which COUNTER 0 of this MODE and TOP goes on from a. */
    private static int sampled(int mode, int top, int a, int how) {
        ChipTimers x = Rig.clocked(mode, top, 1);
        x.slow(2, 0, how);
        x.ticks(1);
        x.count(0, a);
        x.ticks(1);
        return x.crossed(0);
    }

    private static int up(int a, int how) {
        return sampled(Rig.UP, 9999, a, how);
    }

    /** FIRST behind a TICK in which the COUNT stays. */
    private static int still(int a, int how) {
        ChipTimers x = new ChipTimers();
        x.counter(0, Rig.UP, 9999, 1);
        x.count(0, a);
        x.slow(2, 0, how);
        x.ticks(2);
        return x.crossed(0);
    }

    private static void firstTickIsNumberOne() {
        due.sentence("The SLOW clock, if the number of TICKS by then, this one too (so 1 in the first TICK), can be "
            + "divided by its PERIOD");
        ChipTimers x = new ChipTimers();
        x.count(0, 7);
        x.slow(2, 0, Rig.PLAIN);
        x.ticks(1);
        due.is("TICK 1: crossed(0)", x.crossed(0), 0);
        x.ticks(1);
        due.is("TICK 2: crossed(0)", x.crossed(0), 7);
        ChipTimers first = new ChipTimers();
        first.count(0, 7);
        first.ticks(3);
        due.is("PERIOD 4 at first, TICK 3: crossed(0)", first.crossed(0), 0);
        first.ticks(1);
        due.is("TICK 4: crossed(0)", first.crossed(0), 7);
    }

    private static void ticksDividedByPeriod() {
        due.sentence("can be divided by its PERIOD");
        for (int period = 2; period <= 16; period++) {
            ChipTimers x = new ChipTimers();
            x.counter(0, Rig.UP, 9999, 1);
            x.slow(period, 0, Rig.PLAIN);
            int want = 0;
            for (int tick = 1; tick <= 50; tick++) {
                x.count(0, 100 + tick);
                x.ticks(1);
                if (tick % period == 0) {
                    want = 100 + tick;
                }
                due.is("PERIOD " + period + ", TICK " + tick + ": crossed(0)", x.crossed(0), want);
            }
        }
    }

    private static void periodsSetOnTheWay() {
        due.sentence("the number of TICKS by then");
        for (int ahead = 0; ahead <= 12; ahead++) {
            ChipTimers x = new ChipTimers();
            x.count(0, 9);
            x.ticks(ahead);
            x.slow(5, 0, Rig.PLAIN);
            int left = 5 - ahead % 5;
            x.ticks(left - 1);
            due.is("slow() behind TICK " + ahead + ": crossed(0)", x.crossed(0), 0);
            x.ticks(1);
            due.is("slow() behind TICK " + ahead + ": crossed(0)", x.crossed(0), 9);
        }
    }

    private static void secondIsFirst() {
        due.sentence("SECOND is FIRST; FIRST is a SAMPLE (see 4)");
        ChipTimers x = new ChipTimers();
        x.slow(3, 0, Rig.TWISTED);
        int[] put = {10, 20, 30, 40};
        int last = 0;
        for (int v : put) {
            x.count(0, v);
            x.ticks(2);
            due.is("between: crossed(0)", x.crossed(0), last);
            x.ticks(1);
            due.is("crossed(0)", x.crossed(0), v);
            due.is("crossed(1)", x.crossed(1), last);
            last = v;
        }
        due.is("slow(3, 0, 1)", x.slow(3, 0, Rig.TWISTED), 1);
        due.row("FIRST, SECOND are 0", Look.crossed(x), 0, 0, 3, 0, 1);
        x.ticks(3);
        due.row("SECOND is that 0", Look.crossed(x), 40, 0, 3, 0, 1);
    }

    private static void aheadOfThisTickAndNow() {
        due.sentence("of its COUNT a ahead of this TICK and b now");
        ChipTimers put = new ChipTimers();
        put.count(0, 1);
        put.slow(2, 0, Rig.PLAIN);
        put.ticks(1);
        put.count(0, 6);
        put.ticks(1);
        due.is("a COUNT put behind the last TICK is a: crossed(0)", put.crossed(0), 6);
        ChipTimers chain = Rig.clocked(Rig.UP, 1, 1);
        chain.source(1, Rig.AHEAD);
        chain.count(1, 2);
        chain.slow(2, 1, Rig.PLAIN);
        chain.ticks(2);
        due.is("2 and 3, by the OVER of this TICK: crossed(0)", chain.crossed(0), 2);
        chain.ticks(2);
        due.is("3 and 4: crossed(0)", chain.crossed(0), 0);
        ChipTimers anew = new ChipTimers();
        anew.count(0, 77);
        anew.slow(2, 0, Rig.PLAIN);
        anew.ticks(1);
        anew.counter(0, Rig.UP, 9, 1);
        anew.ticks(1);
        due.is("counter() makes it 0: crossed(0)", anew.crossed(0), 0);
    }

    private static void plainWhereBothAreTheSame() {
        due.sentence("bits that are 1 in both: PLAIN: of a and b themselves");
        for (int a : new int[] {0, 1, 2, 3, 99, 4095, 4096, 8191, 8192, 9999}) {
            due.is("PLAIN " + a, still(a, Rig.PLAIN), a);
        }
    }

    private static void plainWhereOneBitChanges() {
        due.sentence("PLAIN: of a and b themselves");
        for (int a : new int[] {0, 2, 4, 98, 4094, 8192, 9998}) {
            due.is("PLAIN " + a + " and one more", up(a, Rig.PLAIN), a);
        }
    }

    private static void plainWhereManyChange() {
        due.sentence("PLAIN: of a and b themselves");
        due.is("1 and 2", up(1, Rig.PLAIN), 0);
        due.is("3 and 4", up(3, Rig.PLAIN), 0);
        due.is("5 and 6", up(5, Rig.PLAIN), 4);
        due.is("11 and 12", up(11, Rig.PLAIN), 8);
        due.is("4095 and 4096", up(4095, Rig.PLAIN), 0);
        due.is("8191 and 8192", up(8191, Rig.PLAIN), 0);
        due.is("8703 and 8704", up(8703, Rig.PLAIN), 8192);
    }

    private static void plainOver() {
        due.sentence("PLAIN: of a and b themselves");
        due.is("UP from 9999 to 0", up(9999, Rig.PLAIN), 0);
        due.is("DOWN from 0 to 9999", sampled(Rig.DOWN, 9999, 0, Rig.PLAIN), 0);
        due.is("BOTH from TOP 7 to 6", sampled(Rig.BOTH, 7, 7, Rig.PLAIN), 6);
        due.is("BOTH from TOP 8 to 7", sampled(Rig.BOTH, 8, 8, Rig.PLAIN), 0);
    }

    private static void twistedWhereBothAreTheSame() {
        due.sentence("TWISTED: of a xor (a by 2) and b xor (b by 2) (by 2 cut down), and of that the number whose such "
            + "form it is");
        for (int a = 0; a <= 9999; a++) {
            due.is("TWISTED " + a, still(a, Rig.TWISTED), a);
        }
    }

    private static void twistedWhereOneBitChanges() {
        due.sentence("TWISTED: of a xor (a by 2) and b xor (b by 2)");
        // The forms of 0 .. 8 are 0, 1, 3, 2, 6, 7, 5, 4, 12: what is less of both forms is in both.
        int[] wanted = {0, 1, 3, 3, 4, 6, 7, 7};
        for (int a = 0; a < wanted.length; a++) {
            due.is("TWISTED " + a + " and one more", up(a, Rig.TWISTED), wanted[a]);
        }
        due.is("9998 and 9999", up(9998, Rig.TWISTED), 9999);
    }

    private static void twistedWhereManyBitsOfTheCountChange() {
        due.sentence("a count that another clock samples [..] so that one bit alone changes");
        due.is("15 and 16", up(15, Rig.TWISTED), 15);
        due.is("1023 and 1024", up(1023, Rig.TWISTED), 1023);
        due.is("4095 and 4096", up(4095, Rig.TWISTED), 4095);
        due.is("8191 and 8192", up(8191, Rig.TWISTED), 8191);
    }

    private static void twistedOver() {
        due.sentence("TWISTED: [..] bits that are 1 in both");
        due.is("UP from 9999 to 0", up(9999, Rig.TWISTED), 0);
        due.is("UP from TOP 99 to 0", sampled(Rig.UP, 99, 99, Rig.TWISTED), 0);
        due.is("DOWN from 0 to 9999", sampled(Rig.DOWN, 9999, 0, Rig.TWISTED), 0);
        due.is("BOTH from TOP 8 to 7", sampled(Rig.BOTH, 8, 8, Rig.TWISTED), 7);
        due.is("BOTH from TOP 9999 to 9998", sampled(Rig.BOTH, 9999, 9999, Rig.TWISTED), 9999);
    }

    private static void twistedDown() {
        due.sentence("of its COUNT a ahead of this TICK and b now");
        for (int a : new int[] {1, 2, 3, 4, 5, 8, 16, 4096, 8192, 9999}) {
            due.is("TWISTED " + a + " and one less", sampled(Rig.DOWN, 9999, a, Rig.TWISTED), up(a - 1, Rig.TWISTED));
        }
    }

    private static void twistedIsNeverFarOff() {
        due.sentence("so that one bit alone changes");
        ChipTimers x = Rig.clocked(Rig.UP, 9999, 1);
        x.slow(2, 0, Rig.TWISTED);
        for (int b = 2; b <= 200; b += 2) {
            x.ticks(2);
            int got = x.crossed(0);
            due.holds(got + " is " + (b - 1) + " or " + b, got == b - 1 || got == b);
        }
    }

    /** A SAMPLE of 14 bits is enough: no COUNT comes to more, and no SAMPLE of two COUNTS does. */
    private static void countsBelow16384() {
        due.sentence("(COUNTS below 16384.)");
        for (int c = 0; c < 4; c++) {
            ChipTimers x = new ChipTimers();
            x.counter(c, Rig.DOWN, 9999, 1);
            due.is("counter(" + c + ", 1, 16384, 1)", x.counter(c, Rig.DOWN, 16384, 1), -2);
            due.is("top(" + c + ", 16384)", x.top(c, 16384), -2);
            due.is("count(" + c + ", 16384)", x.count(c, 16384), -2);
            x.source(c, Rig.CLOCK);
            x.slow(2, c, Rig.TWISTED);
            x.ticks(2);
            due.is("9999 and 9998, the greatest COUNTS: crossed(0)", x.crossed(0), 9999);
        }
        for (int bit = 1; bit < 16384; bit *= 2) {
            int a = Math.min(bit, 9999);
            due.is("TWISTED " + a, still(a, Rig.TWISTED), a);
            due.is("PLAIN " + a, still(a, Rig.PLAIN), a);
        }
    }

    private static void sampleOfTheCounterThatIsCrossed() {
        due.sentence("A SAMPLE of the COUNTER that is CROSSED");
        for (int c = 0; c < 4; c++) {
            for (int how = 0; how <= 1; how++) {
                ChipTimers x = new ChipTimers();
                for (int other = 0; other < 4; other++) {
                    x.count(other, 40 + other);
                }
                due.is("slow(16, " + c + ", " + how + ")", x.slow(16, c, how), 1);
                x.ticks(16);
                due.row("crossed(..)", Look.crossed(x), 40 + c, 0, 16, c, how);
            }
        }
    }
}
