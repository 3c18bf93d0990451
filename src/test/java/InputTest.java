/** Promises 7 to 9, and how INPUTS go in a TICK. */
public final class InputTest {
    private static final Due due = new Due("InputTest");

    public static void main(String[] args) {
        inputTellsWhatItWas();
        filterTellsWhatItWas();
        ofInputRefuses();
        levelsAreBelievedWhenSteady();
        greatestFilter();
        filterLoweredInARun();
        filterRaisedInARun();
        due.end();
    }

    private static void inputTellsWhatItWas() {
        ChipTimers x = new ChipTimers();
        due.is("input(3, 1)", x.input(3, 1), 0);
        due.is("input(3, 1)", x.input(3, 1), 1);
        due.row("ofInput(3, ..)", Look.input(x, 3), 1, 0, 0, 1);
        due.is("input(3, 0)", x.input(3, 0), 1);
        due.row("ofInput(3, ..)", Look.input(x, 3), 0, 0, 0, 1);
        due.is("input(0, 2)", x.input(0, 2), -2);
        due.is("input(0, -1)", x.input(0, -1), -2);
        due.is("input(4, 0)", x.input(4, 0), -1);
        due.is("input(-1, 2)", x.input(-1, 2), -1);
    }

    private static void filterTellsWhatItWas() {
        ChipTimers x = new ChipTimers();
        due.is("filter(0, 8)", x.filter(0, 8), 1);
        due.is("filter(0, 1)", x.filter(0, 1), 8);
        due.is("filter(0, 0)", x.filter(0, 0), -2);
        due.is("filter(0, 9)", x.filter(0, 9), -2);
        due.is("filter(4, 1)", x.filter(4, 1), -1);
        due.is("filter(-1, 0)", x.filter(-1, 0), -1);
        due.is("ofInput(0, 3)", x.ofInput(0, 3), 1);
    }

    private static void ofInputRefuses() {
        ChipTimers x = new ChipTimers();
        due.is("ofInput(4, 0)", x.ofInput(4, 0), -1);
        due.is("ofInput(-1, 4)", x.ofInput(-1, 4), -1);
        due.is("ofInput(0, 4)", x.ofInput(0, 4), -2);
        due.is("ofInput(0, -1)", x.ofInput(0, -1), -2);
    }

    private static void levelsAreBelievedWhenSteady() {
        ChipTimers x = new ChipTimers();
        x.filter(2, 3);
        x.input(2, 1);
        x.ticks(2);
        due.row("two of three", Look.input(x, 2), 1, 0, 2, 3);
        x.input(2, 0);
        due.row("RUN stays till the next TICK", Look.input(x, 2), 0, 0, 2, 3);
        x.ticks(1);
        due.row("and is 0 then", Look.input(x, 2), 0, 0, 0, 3);
        x.input(2, 1);
        x.ticks(3);
        due.row("three of three", Look.input(x, 2), 1, 1, 0, 3);
        x.input(2, 0);
        x.ticks(2);
        due.row("falling, two of three", Look.input(x, 2), 0, 1, 2, 3);
        x.ticks(1);
        due.row("falling, three of three", Look.input(x, 2), 0, 0, 0, 3);
        due.row("another INPUT", Look.input(x, 1), 0, 0, 0, 1);
    }

    private static void greatestFilter() {
        ChipTimers x = new ChipTimers();
        x.filter(0, 8);
        x.input(0, 1);
        x.ticks(7);
        due.row("seven of eight", Look.input(x, 0), 1, 0, 7, 8);
        x.ticks(1);
        due.row("eight of eight", Look.input(x, 0), 1, 1, 0, 8);
    }

    private static void filterLoweredInARun() {
        ChipTimers x = new ChipTimers();
        x.filter(0, 8);
        x.input(0, 1);
        x.ticks(5);
        due.is("filter(0, 2)", x.filter(0, 2), 8);
        due.row("RUN stays", Look.input(x, 0), 1, 0, 5, 2);
        x.ticks(1);
        due.row("above FILTER is enough", Look.input(x, 0), 1, 1, 0, 2);
    }

    private static void filterRaisedInARun() {
        ChipTimers x = new ChipTimers();
        x.filter(0, 2);
        x.input(0, 1);
        x.ticks(1);
        due.is("filter(0, 4)", x.filter(0, 4), 2);
        x.ticks(2);
        due.row("three of four", Look.input(x, 0), 1, 0, 3, 4);
        x.ticks(1);
        due.row("four of four", Look.input(x, 0), 1, 1, 0, 4);
    }
}
