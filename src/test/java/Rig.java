/** Objects as several tests start from them, and rows of what they tell TICK by TICK. */
final class Rig {
    static final int UP = 0, DOWN = 1, BOTH = 2;
    static final int CLOCK = 1, AHEAD = 2, EDGE = 3;
    static final int OFF = 0, BELOW = 1, ABOVE = 2, TURNING = 3, ONCE = 4;
    static final int PLAIN = 0, TWISTED = 1;

    private Rig() {
    }

    /** COUNTER 0 as told, by the clock. */
    static ChipTimers clocked(int mode, int top, int share) {
        ChipTimers x = new ChipTimers();
        x.counter(0, mode, top, share);
        x.source(0, CLOCK);
        return x;
    }

    /** PAIR k whole, its low half by the clock with this TOP. */
    static ChipTimers wholePair(int k, int lowTop) {
        ChipTimers x = new ChipTimers();
        x.counter(2 * k, UP, lowTop, 1);
        x.source(2 * k, CLOCK);
        x.source(2 * k + 1, AHEAD);
        return x;
    }

    static int[] counts(ChipTimers x, int c, int n) {
        int[] row = new int[n];
        for (int i = 0; i < n; i++) {
            x.ticks(1);
            row[i] = x.ofCounter(c, 0);
        }
        return row;
    }

    static int[] levels(ChipTimers x, int k, int n) {
        int[] row = new int[n];
        for (int i = 0; i < n; i++) {
            x.ticks(1);
            row[i] = x.ofChannel(k, 3);
        }
        return row;
    }

    /** Turns the INPUT over and lets one TICK pass. */
    static void turn(ChipTimers x, int k) {
        x.input(k, 1 - x.ofInput(k, 0));
        x.ticks(1);
    }

    /** Every part stands otherwise than at first: PAIR 0 is whole and has 4 HELD with 6 counted, it is BRAKED. */
    static ChipTimers busy() {
        ChipTimers x = new ChipTimers();
        x.counter(0, UP, 6, 1);
        x.source(0, CLOCK);
        x.counter(1, UP, 30, 1);
        x.source(1, AHEAD);
        x.counter(2, BOTH, 5, 3);
        x.source(2, CLOCK);
        x.counter(3, DOWN, 5, 2);
        x.source(3, EDGE);
        x.filter(2, 5);
        x.holds(0, 1);
        for (int k = 0; k < 4; k++) {
            x.input(k, 1);
            x.catcher(k, k, 3, 1);
            x.channel(k, k, 1 + k, 2);
            x.outputs(k, k, k, 3 - k);
        }
        x.slow(3, 0, TWISTED);
        x.ticks(31);
        x.input(2, 0);
        x.ticks(2);
        x.top(1, 8);
        x.read(0, 0);
        x.ticks(14);
        x.brake();
        return x;
    }
}
