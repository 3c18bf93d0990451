/** Promises 10 to 12, and how CATCHERS go in a TICK. */
public final class CatcherTest {
    private static final Due due = new Due("CatcherTest");

    public static void main(String[] args) {
        catcherStartsAnew();
        edgesOfCatcher();
        takenOnce();
        ofCatcherRefuses();
        edgesThatItTakes();
        everySeveralth();
        countOfItsCounterBehindTheStep();
        edgeByFilter();
        due.end();
    }

    private static void catcherStartsAnew() {
        ChipTimers x = Rig.clocked(0, 99, 1);
        due.is("catcher(3, 0, 3, 1)", x.catcher(3, 0, 3, 1), 1);
        Rig.turn(x, 3);
        Rig.turn(x, 3);
        due.row("ofCatcher(3, ..)", Look.catcher(x, 3), 0, 3, 1, 2, 2, 1, 1);
        due.is("catcher(3, 2, 1, 4)", x.catcher(3, 2, 1, 4), 1);
        due.row("ofCatcher(3, ..)", Look.catcher(x, 3), 2, 1, 4, 0, 0, 0, 0);
        due.is("taken(3)", x.taken(3), -9);
    }

    private static void edgesOfCatcher() {
        ChipTimers x = new ChipTimers();
        due.is("catcher(0, 3, 0, 4)", x.catcher(0, 3, 0, 4), 1);
        due.is("catcher(4, 0, 0, 1)", x.catcher(4, 0, 0, 1), -1);
        due.is("catcher(-1, 0, 0, 1)", x.catcher(-1, 0, 0, 1), -1);
        due.is("catcher(0, 4, 0, 1)", x.catcher(0, 4, 0, 1), -1);
        due.is("catcher(0, -1, 4, 0)", x.catcher(0, -1, 4, 0), -1);
        due.is("catcher(0, 0, 4, 1)", x.catcher(0, 0, 4, 1), -2);
        due.is("catcher(0, 0, -1, 1)", x.catcher(0, 0, -1, 1), -2);
        due.is("catcher(0, 0, 0, 0)", x.catcher(0, 0, 0, 0), -2);
        due.is("catcher(0, 0, 0, 5)", x.catcher(0, 0, 0, 5), -2);
        due.row("ofCatcher(0, ..)", Look.catcher(x, 0), 3, 0, 4, 0, 0, 0, 0);
    }

    private static void takenOnce() {
        ChipTimers x = Rig.clocked(0, 99, 1);
        x.catcher(1, 0, 1, 1);
        due.is("taken(1)", x.taken(1), -9);
        x.ticks(4);
        Rig.turn(x, 1);
        due.is("many(4)", x.many(4), 1);
        due.is("taken(1)", x.taken(1), 5);
        due.row("VALUE stays", Look.catcher(x, 1), 0, 1, 1, 1, 5, 0, 0);
        due.is("taken(1)", x.taken(1), -9);
        Rig.turn(x, 1);
        Rig.turn(x, 1);
        due.row("nothing is MISSED that was taken", Look.catcher(x, 1), 0, 1, 1, 2, 7, 1, 0);
        Rig.turn(x, 1);
        Rig.turn(x, 1);
        due.row("MISSED", Look.catcher(x, 1), 0, 1, 1, 3, 9, 1, 1);
        due.is("taken(1)", x.taken(1), 9);
        due.is("taken(4)", x.taken(4), -1);
        due.is("taken(-1)", x.taken(-1), -1);
        x.count(0, 99);
        Rig.turn(x, 1);
        x.count(0, 99);
        Rig.turn(x, 1);
        due.is("a VALUE of 0 is one, too: taken(1)", x.taken(1), 0);
    }

    private static void ofCatcherRefuses() {
        ChipTimers x = new ChipTimers();
        due.is("ofCatcher(4, 0)", x.ofCatcher(4, 0), -1);
        due.is("ofCatcher(-1, 7)", x.ofCatcher(-1, 7), -1);
        due.is("ofCatcher(0, 7)", x.ofCatcher(0, 7), -2);
        due.is("ofCatcher(0, -1)", x.ofCatcher(0, -1), -2);
    }

    private static void edgesThatItTakes() {
        ChipTimers x = Rig.clocked(0, 99, 1);
        for (int k = 0; k < 4; k++) {
            x.catcher(k, 0, k, 1);
            x.input(k, 1);
        }
        x.ticks(3);
        for (int k = 0; k < 4; k++) {
            x.input(k, 0);
        }
        x.ticks(3);
        due.row("none", Look.catcher(x, 0), 0, 0, 1, 0, 0, 0, 0);
        due.row("rising", Look.catcher(x, 1), 0, 1, 1, 1, 1, 1, 0);
        due.row("falling", Look.catcher(x, 2), 0, 2, 1, 1, 4, 1, 0);
        due.row("both", Look.catcher(x, 3), 0, 3, 1, 2, 4, 1, 1);
        due.is("many(4)", x.many(4), 3);
    }

    private static void everySeveralth() {
        ChipTimers x = Rig.clocked(0, 99, 1);
        x.catcher(0, 0, 3, 3);
        Rig.turn(x, 0);
        Rig.turn(x, 0);
        due.row("two of three", Look.catcher(x, 0), 0, 3, 3, 2, 0, 0, 0);
        Rig.turn(x, 0);
        due.row("three of three", Look.catcher(x, 0), 0, 3, 3, 3, 3, 1, 0);
        Rig.turn(x, 0);
        Rig.turn(x, 0);
        due.row("five", Look.catcher(x, 0), 0, 3, 3, 5, 3, 1, 0);
        Rig.turn(x, 0);
        due.row("six", Look.catcher(x, 0), 0, 3, 3, 6, 6, 1, 1);
    }

    private static void countOfItsCounterBehindTheStep() {
        ChipTimers x = Rig.clocked(0, 99, 1);
        x.counter(3, 1, 50, 1);
        x.source(3, 3);
        x.catcher(3, 3, 1, 1);
        x.catcher(2, 3, 1, 1);
        x.input(2, 1);
        x.input(3, 1);
        x.ticks(1);
        due.is("the COUNTER that the same EDGE drives: taken(3)", x.taken(3), 50);
        due.is("taken(2)", x.taken(2), 50);
    }

    private static void edgeByFilter() {
        ChipTimers x = Rig.clocked(0, 99, 1);
        x.filter(0, 4);
        x.catcher(0, 0, 1, 1);
        x.input(0, 1);
        x.ticks(3);
        due.is("ofCatcher(0, 3)", x.ofCatcher(0, 3), 0);
        x.ticks(6);
        due.row("at the EDGE", Look.catcher(x, 0), 0, 1, 1, 1, 4, 1, 0);
    }
}
