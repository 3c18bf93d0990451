/** Terms 2, CHANNELS: COUNT just below MARK, at it and just above, for each MODE, and SINCE. */
public final class Terms2ChannelsTest {
    private static final Due due = new Due("Terms2ChannelsTest");

    public static void main(String[] args) {
        off();
        below();
        above();
        turning();
        turningNeedsAStep();
        turningByOver();
        turningByBothWays();
        once();
        onceNeedsAStep();
        markBeyondTop();
        countOfItsCounter();
        sinceIsOneByAnotherLevel();
        sinceIs99AtMost();
        sinceBehindChannel();
        due.end();
    }

    /** LEVEL behind a TICK in which COUNTER 0 comes to this COUNT by a STEP. */
    private static int levelAt(int count, int mode, int mark) {
        ChipTimers x = Rig.clocked(Rig.UP, 9999, 1);
        x.channel(0, 0, mode, mark);
        x.count(0, count == 0 ? 9999 : count - 1);
        x.ticks(1);
        due.is("ofCounter(0, 0)", x.ofCounter(0, 0), count);
        return x.ofChannel(0, 3);
    }

    private static final int[] MARKS = {1, 2, 50, 9998};

    private static void off() {
        due.sentence("LEVEL becomes: OFF: 0");
        for (int mark : MARKS) {
            for (int count = mark - 1; count <= mark + 1; count++) {
                due.is("MARK " + mark + ", COUNT " + count, levelAt(count, Rig.OFF, mark), 0);
            }
        }
    }

    private static void below() {
        due.sentence("BELOW: 1, if COUNT is less than MARK, else 0");
        for (int mark : MARKS) {
            due.is("MARK " + mark + ", one less", levelAt(mark - 1, Rig.BELOW, mark), 1);
            due.is("MARK " + mark, levelAt(mark, Rig.BELOW, mark), 0);
            due.is("MARK " + mark + ", one more", levelAt(mark + 1, Rig.BELOW, mark), 0);
        }
        due.is("MARK 0, COUNT 0", levelAt(0, Rig.BELOW, 0), 0);
        due.is("MARK 9999, COUNT 9998", levelAt(9998, Rig.BELOW, 9999), 1);
        due.is("MARK 9999, COUNT 9999", levelAt(9999, Rig.BELOW, 9999), 0);
        ChipTimers still = new ChipTimers();
        still.channel(0, 0, Rig.BELOW, 1);
        still.ticks(1);
        due.is("it needs no STEP: ofChannel(0, 3)", still.ofChannel(0, 3), 1);
    }

    private static void above() {
        due.sentence("ABOVE: 1, if it is not less, else 0");
        for (int mark : MARKS) {
            due.is("MARK " + mark + ", one less", levelAt(mark - 1, Rig.ABOVE, mark), 0);
            due.is("MARK " + mark, levelAt(mark, Rig.ABOVE, mark), 1);
            due.is("MARK " + mark + ", one more", levelAt(mark + 1, Rig.ABOVE, mark), 1);
        }
        due.is("MARK 0, COUNT 0", levelAt(0, Rig.ABOVE, 0), 1);
        due.is("MARK 9999, COUNT 9998", levelAt(9998, Rig.ABOVE, 9999), 0);
        due.is("MARK 9999, COUNT 9999", levelAt(9999, Rig.ABOVE, 9999), 1);
        ChipTimers still = new ChipTimers();
        still.channel(0, 0, Rig.ABOVE, 0);
        still.ticks(1);
        due.is("it needs no STEP: ofChannel(0, 3)", still.ofChannel(0, 3), 1);
    }

    private static void turning() {
        due.sentence("TURNING: the other one, if the COUNTER STEPPED in this TICK and COUNT is MARK; else as it was");
        for (int mark : MARKS) {
            due.is("MARK " + mark + ", one less", levelAt(mark - 1, Rig.TURNING, mark), 0);
            due.is("MARK " + mark, levelAt(mark, Rig.TURNING, mark), 1);
            due.is("MARK " + mark + ", one more", levelAt(mark + 1, Rig.TURNING, mark), 0);
        }
        due.is("MARK 0, COUNT 0", levelAt(0, Rig.TURNING, 0), 1);
        due.is("MARK 9999, COUNT 9999", levelAt(9999, Rig.TURNING, 9999), 1);
        ChipTimers x = Rig.clocked(Rig.UP, 3, 1);
        x.channel(0, 0, Rig.TURNING, 2);
        due.row("LEVELS", Rig.levels(x, 0, 11), 0, 1, 1, 1, 1, 0, 0, 0, 0, 1, 1);
    }

    private static void turningNeedsAStep() {
        due.sentence("TURNING: the other one, if the COUNTER STEPPED in this TICK and COUNT is MARK");
        ChipTimers x = Rig.clocked(Rig.UP, 9, 3);
        x.channel(0, 0, Rig.TURNING, 1);
        due.row("a PULSE that is no STEP turns nothing", Rig.levels(x, 0, 8), 0, 0, 1, 1, 1, 1, 1, 1);
        ChipTimers put = new ChipTimers();
        put.channel(0, 0, Rig.TURNING, 5);
        put.count(0, 5);
        due.row("nor a COUNT that was put", Rig.levels(put, 0, 3), 0, 0, 0);
        ChipTimers stopped = Rig.clocked(Rig.UP, 9, 1);
        stopped.channel(0, 0, Rig.TURNING, 2);
        stopped.ticks(2);
        due.is("a STEP: ofChannel(0, 3)", stopped.ofChannel(0, 3), 1);
        stopped.source(0, 0);
        due.row("nor a STEP of an earlier TICK", Rig.levels(stopped, 0, 3), 1, 1, 1);
        ChipTimers anew = Rig.clocked(Rig.UP, 9, 1);
        anew.ticks(2);
        anew.channel(0, 0, Rig.TURNING, 2);
        due.is("nor one ahead of channel(): ofChannel(0, 3)", anew.ofChannel(0, 3), 0);
        due.row("and not the next COUNT", Rig.levels(anew, 0, 2), 0, 0);
    }

    private static void turningByOver() {
        due.sentence("if the COUNTER STEPPED in this TICK and COUNT is MARK");
        ChipTimers up = Rig.clocked(Rig.UP, 2, 1);
        up.channel(0, 0, Rig.TURNING, 0);
        due.row("UP, OVER to 0", Rig.levels(up, 0, 7), 0, 0, 1, 1, 1, 0, 0);
        ChipTimers down = Rig.clocked(Rig.DOWN, 2, 1);
        down.channel(0, 0, Rig.TURNING, 2);
        due.row("DOWN, OVER to TOP", Rig.levels(down, 0, 7), 1, 1, 1, 0, 0, 0, 1);
        ChipTimers waits = Rig.clocked(Rig.DOWN, 2, 1);
        waits.top(0, 6);
        waits.channel(0, 0, Rig.TURNING, 6);
        due.row("DOWN, OVER to the TOP that WAITED", Rig.levels(waits, 0, 8), 1, 1, 1, 1, 1, 1, 1, 0);
    }

    private static void turningByBothWays() {
        due.sentence("if the COUNTER STEPPED in this TICK and COUNT is MARK");
        ChipTimers top = Rig.clocked(Rig.BOTH, 2, 1);
        top.channel(0, 0, Rig.TURNING, 2);
        due.row("TOP comes once a turn", Rig.levels(top, 0, 9), 0, 1, 1, 1, 1, 0, 0, 0, 0);
        ChipTimers zero = Rig.clocked(Rig.BOTH, 2, 1);
        zero.channel(0, 0, Rig.TURNING, 0);
        due.row("0 comes once a turn", Rig.levels(zero, 0, 9), 0, 0, 0, 1, 1, 1, 1, 0, 0);
        ChipTimers middle = Rig.clocked(Rig.BOTH, 2, 1);
        middle.channel(0, 0, Rig.TURNING, 1);
        due.row("1 comes twice a turn", Rig.levels(middle, 0, 6), 1, 1, 0, 0, 1, 1);
    }

    private static void once() {
        due.sentence("ONCE: 1, if that is so; else as it was");
        for (int mark : MARKS) {
            due.is("MARK " + mark + ", one less", levelAt(mark - 1, Rig.ONCE, mark), 0);
            due.is("MARK " + mark, levelAt(mark, Rig.ONCE, mark), 1);
            due.is("MARK " + mark + ", one more", levelAt(mark + 1, Rig.ONCE, mark), 0);
        }
        due.is("MARK 0, COUNT 0", levelAt(0, Rig.ONCE, 0), 1);
        due.is("MARK 9999, COUNT 9999", levelAt(9999, Rig.ONCE, 9999), 1);
        ChipTimers x = Rig.clocked(Rig.UP, 3, 1);
        x.channel(0, 0, Rig.ONCE, 2);
        due.row("it stays", Rig.levels(x, 0, 11), 0, 1, 1, 1, 1, 1, 1, 1, 1, 1, 1);
        x.count(0, 0);
        x.source(0, 0);
        due.row("without PULSES, too", Rig.levels(x, 0, 3), 1, 1, 1);
        x.channel(0, 0, Rig.ONCE, 2);
        due.row("till channel()", Rig.levels(x, 0, 2), 0, 0);
    }

    private static void onceNeedsAStep() {
        due.sentence("ONCE: 1, if that is so");
        ChipTimers put = new ChipTimers();
        put.channel(0, 0, Rig.ONCE, 5);
        put.count(0, 5);
        due.row("a COUNT that was put", Rig.levels(put, 0, 3), 0, 0, 0);
        ChipTimers first = Rig.clocked(Rig.UP, 9, 2);
        first.channel(0, 0, Rig.ONCE, 0);
        due.row("COUNT 0 at first, and a PULSE that is no STEP", Rig.levels(first, 0, 2), 0, 0);
    }

    private static void markBeyondTop() {
        due.sentence("BELOW: 1, if COUNT is less than MARK [..] COUNT is MARK");
        ChipTimers x = Rig.clocked(Rig.UP, 3, 1);
        for (int k = 0; k < 4; k++) {
            x.channel(k, 0, k + 1, 4);
        }
        for (int i = 0; i < 9; i++) {
            x.ticks(1);
            due.is("BELOW: ofChannel(0, 3)", x.ofChannel(0, 3), 1);
            due.is("ABOVE: ofChannel(1, 3)", x.ofChannel(1, 3), 0);
            due.is("TURNING: ofChannel(2, 3)", x.ofChannel(2, 3), 0);
            due.is("ONCE: ofChannel(3, 3)", x.ofChannel(3, 3), 0);
        }
    }

    private static void countOfItsCounter() {
        due.sentence("CHANNELS, by number, by the COUNT of its COUNTER");
        for (int k = 0; k < 4; k++) {
            for (int c = 0; c < 4; c++) {
                ChipTimers x = new ChipTimers();
                x.source(c, Rig.CLOCK);
                x.count(c, 10);
                x.channel(k, c, Rig.ONCE, 11);
                due.is("ofChannel(" + k + ", 0)", x.ofChannel(k, 0), c);
                x.ticks(1);
                for (int other = 0; other < 4; other++) {
                    due.is("COUNTER " + c + ": ofChannel(" + other + ", 3)", x.ofChannel(other, 3), other == k ? 1 : 0);
                }
            }
        }
    }

    private static void sinceIsOneByAnotherLevel() {
        due.sentence("SINCE is 1, if LEVEL is another one than ahead of this TICK, else one more");
        ChipTimers x = Rig.clocked(Rig.UP, 4, 1);
        x.channel(2, 0, Rig.ABOVE, 2);
        int[] levels = {0, 1, 1, 1, 0, 0, 1, 1, 1, 0};
        int[] sinces = {1, 1, 2, 3, 1, 2, 1, 2, 3, 1};
        for (int i = 0; i < levels.length; i++) {
            x.ticks(1);
            due.is("TICK " + (i + 1) + ": ofChannel(2, 3)", x.ofChannel(2, 3), levels[i]);
            due.is("TICK " + (i + 1) + ": ofChannel(2, 4)", x.ofChannel(2, 4), sinces[i]);
        }
        ChipTimers turns = Rig.clocked(Rig.UP, 1, 1);
        turns.channel(0, 0, Rig.BELOW, 1);
        turns.ticks(1);
        for (int i = 0; i < 5; i++) {
            turns.ticks(1);
            due.is("a LEVEL that is another one with each TICK: ofChannel(0, 4)", turns.ofChannel(0, 4), 1);
        }
    }

    private static void sinceIs99AtMost() {
        due.sentence("else one more (99 at most)");
        for (int level = 0; level <= 1; level++) {
            ChipTimers x = Rig.clocked(Rig.UP, 9999, 1);
            x.channel(1, 0, level == 1 ? Rig.BELOW : Rig.ABOVE, 300);
            x.ticks(98);
            due.is("ofChannel(1, 3)", x.ofChannel(1, 3), level);
            due.is("98 TICKS: ofChannel(1, 4)", x.ofChannel(1, 4), 98);
            x.ticks(1);
            due.is("99 TICKS: ofChannel(1, 4)", x.ofChannel(1, 4), 99);
            x.ticks(1);
            due.is("100 TICKS: ofChannel(1, 4)", x.ofChannel(1, 4), 99);
            x.ticks(199);
            due.is("299 TICKS: ofChannel(1, 4)", x.ofChannel(1, 4), 99);
            x.ticks(1);
            due.is("ofChannel(1, 3)", x.ofChannel(1, 3), 1 - level);
            due.is("another LEVEL: ofChannel(1, 4)", x.ofChannel(1, 4), 1);
        }
    }

    private static void sinceBehindChannel() {
        due.sentence("A CHANNEL gets a COUNTER, MODE, MARK: LEVEL, SINCE are 0: 1");
        ChipTimers x = new ChipTimers();
        x.channel(0, 0, Rig.ABOVE, 0);
        x.ticks(150);
        due.is("channel(0, 0, 2, 0)", x.channel(0, 0, Rig.ABOVE, 0), 1);
        due.is("ofChannel(0, 3)", x.ofChannel(0, 3), 0);
        due.is("ofChannel(0, 4)", x.ofChannel(0, 4), 0);
        x.ticks(1);
        due.is("LEVEL 1 at once: ofChannel(0, 4)", x.ofChannel(0, 4), 1);
        x.channel(0, 0, Rig.BELOW, 0);
        x.ticks(1);
        due.is("LEVEL 0 as it was: ofChannel(0, 4)", x.ofChannel(0, 4), 1);
    }
}
