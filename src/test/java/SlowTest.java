/** Promises 24 and 25, and the SLOW clock in a TICK. */
public final class SlowTest {
    private static final Due due = new Due("SlowTest");

    public static void main(String[] args) {
        slowStartsAnew();
        edgesOfSlow();
        crossedRefuses();
        periods();
        plainSamples();
        twistedSamples();
        everyPairOfCounts();
        secondIsTheFirstOfThen();
        ofTheCounterThatIsCrossed();
        due.end();
    }

    private static void slowStartsAnew() {
        ChipTimers x = new ChipTimers();
        x.count(2, 50);
        due.is("slow(2, 2, 0)", x.slow(2, 2, 0), 1);
        x.ticks(4);
        due.row("crossed(..)", Look.crossed(x), 50, 50, 2, 2, 0);
        due.is("slow(16, 3, 1)", x.slow(16, 3, 1), 1);
        due.row("crossed(..)", Look.crossed(x), 0, 0, 16, 3, 1);
    }

    private static void edgesOfSlow() {
        ChipTimers x = new ChipTimers();
        due.is("slow(2, 4, 0)", x.slow(2, 4, 0), -1);
        due.is("slow(1, -1, 2)", x.slow(1, -1, 2), -1);
        due.is("slow(1, 0, 0)", x.slow(1, 0, 0), -2);
        due.is("slow(0, 0, 0)", x.slow(0, 0, 0), -2);
        due.is("slow(17, 0, 0)", x.slow(17, 0, 0), -2);
        due.is("slow(2, 0, 2)", x.slow(2, 0, 2), -2);
        due.is("slow(2, 0, -1)", x.slow(2, 0, -1), -2);
        due.row("crossed(..)", Look.crossed(x), 0, 0, 4, 0, 0);
    }

    private static void crossedRefuses() {
        ChipTimers x = new ChipTimers();
        due.is("crossed(5)", x.crossed(5), -2);
        due.is("crossed(-1)", x.crossed(-1), -2);
    }

    /** A COUNT that rests is sampled as it is, so FIRST tells whether the SLOW clock has gone. */
    private static void periods() {
        for (int period = 2; period <= 16; period++) {
            ChipTimers x = new ChipTimers();
            x.count(1, 77);
            x.slow(period, 1, period % 2);
            x.ticks(period - 1);
            due.is("PERIOD " + period + ", one less: crossed(0)", x.crossed(0), 0);
            x.ticks(1);
            due.is("PERIOD " + period + ": crossed(0)", x.crossed(0), 77);
            due.is("crossed(1)", x.crossed(1), 0);
            x.ticks(period - 1);
            due.is("crossed(1)", x.crossed(1), 0);
            x.ticks(1);
            due.is("crossed(1)", x.crossed(1), 77);
        }
        ChipTimers x = new ChipTimers();
        x.count(0, 9);
        x.ticks(3);
        due.is("at first: crossed(0)", x.crossed(0), 0);
        x.ticks(1);
        due.is("at first: crossed(0)", x.crossed(0), 9);
        x.ticks(2);
        x.slow(4, 0, 0);
        x.ticks(1);
        due.is("TICKS are counted from the object's start: crossed(0)", x.crossed(0), 0);
        x.ticks(1);
        due.is("crossed(0)", x.crossed(0), 9);
    }

    /** FIRST behind a TICK in which an UP COUNTER with this TOP goes on from a. */
    private static int sampled(int a, int top, int how) {
        ChipTimers x = new ChipTimers();
        x.counter(0, 0, top, 1);
        x.slow(2, 0, how);
        x.ticks(1);
        x.source(0, 1);
        x.count(0, a);
        x.ticks(1);
        return x.crossed(0);
    }

    private static void plainSamples() {
        due.is("3 and 4", sampled(3, 99, 0), 0);
        due.is("4 and 5", sampled(4, 99, 0), 4);
        due.is("5 and 6", sampled(5, 99, 0), 4);
        due.is("6 and 7", sampled(6, 99, 0), 6);
        due.is("4095 and 4096", sampled(4095, 9999, 0), 0);
        due.is("9998 and 9999", sampled(9998, 9999, 0), 9998);
        due.is("9999 and 0", sampled(9999, 9999, 0), 0);
    }

    private static void twistedSamples() {
        due.is("3 and 4", sampled(3, 99, 1), 3);
        due.is("4 and 5: the form of 4 has less", sampled(4, 99, 1), 4);
        due.is("5 and 6: the form of 6 has less", sampled(5, 99, 1), 6);
        due.is("6 and 7: the form of 7 has less", sampled(6, 99, 1), 7);
        due.is("4095 and 4096", sampled(4095, 9999, 1), 4095);
        due.is("8191 and 8192", sampled(8191, 9999, 1), 8191);
        due.is("9998 and 9999", sampled(9998, 9999, 1), 9999);
        due.is("9999 and 0", sampled(9999, 9999, 1), 0);
    }

    /** By one step only one bit of the form changes, so a TWISTED SAMPLE is one of both COUNTS. */
    private static void everyPairOfCounts() {
        for (int a = 0; a < 9999; a++) {
            int b = a + 1;
            int form = (a ^ a / 2) & (b ^ b / 2);
            int twisted = sampled(a, 9999, 1);
            due.is("the form of a TWISTED SAMPLE of " + a, twisted ^ twisted / 2, form);
            due.holds("it is one of both", twisted == a || twisted == b);
            due.is("a PLAIN SAMPLE of " + a, sampled(a, 9999, 0), a & b);
        }
    }

    private static void secondIsTheFirstOfThen() {
        ChipTimers x = new ChipTimers();
        x.slow(2, 0, 0);
        for (int i = 1; i <= 6; i++) {
            x.count(0, 10 * i);
            x.ticks(2);
            due.is("crossed(0)", x.crossed(0), 10 * i);
            due.is("crossed(1)", x.crossed(1), 10 * (i - 1));
        }
    }

    private static void ofTheCounterThatIsCrossed() {
        ChipTimers x = new ChipTimers();
        for (int c = 0; c < 4; c++) {
            x.count(c, 60 + c);
        }
        for (int c = 0; c < 4; c++) {
            x.slow(2, c, 0);
            x.ticks(2);
            due.is("COUNTER " + c + ": crossed(0)", x.crossed(0), 60 + c);
            due.is("crossed(3)", x.crossed(3), c);
        }
        ChipTimers y = new ChipTimers();
        y.counter(3, 1, 99, 1);
        y.source(3, 1);
        y.count(3, 12);
        y.slow(5, 3, 1);
        y.ticks(5);
        due.is("from 8 down to 7, TWISTED: crossed(0)", y.crossed(0), 7);
        ChipTimers z = new ChipTimers();
        z.count(0, 7);
        z.slow(2, 0, 0);
        z.ticks(1);
        z.count(0, 24);
        z.ticks(1);
        due.is("a COUNT that was put between TICKS is ahead of the next: crossed(0)", z.crossed(0), 24);
    }
}
