/** Compares answers with those that are due, and ends the test with exit code 1 if one was not. */
final class Due {
    private final String test;
    private String sentence = "";
    private int asked;
    private int wrong;

    Due(String test) {
        this.test = test;
    }

    /** The document's words by which the answers from here on are due. */
    void sentence(String words) {
        sentence = " by \"" + words + "\"";
    }

    void is(String call, long got, long want) {
        asked++;
        if (got != want) {
            tell(call + " answered " + got + ", due is " + want);
        }
    }

    /** For several answers of one kind, told as one row. */
    void row(String calls, int[] got, int... want) {
        asked++;
        if (!java.util.Arrays.equals(got, want)) {
            tell(calls + " answered " + java.util.Arrays.toString(got) + ", due is "
                + java.util.Arrays.toString(want));
        }
    }

    void holds(String what, boolean so) {
        asked++;
        if (!so) {
            tell("it does not hold that " + what);
        }
    }

    private void tell(String fault) {
        wrong++;
        System.out.println(test + ": " + fault + sentence);
    }

    void end() {
        if (asked == 0) {
            System.out.println(test + ": nothing was asked");
        }
        if (asked == 0 || wrong != 0) {
            System.exit(1);
        }
    }
}
