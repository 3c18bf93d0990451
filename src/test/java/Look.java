/** Rows of all that an object tells of a thing, by calls that change nothing. */
final class Look {
    private Look() {
    }

    static int[] counter(ChipTimers x, int c) {
        int[] row = new int[9];
        for (int what = 0; what < row.length; what++) {
            row[what] = x.ofCounter(c, what);
        }
        return row;
    }

    static int[] input(ChipTimers x, int k) {
        int[] row = new int[4];
        for (int what = 0; what < row.length; what++) {
            row[what] = x.ofInput(k, what);
        }
        return row;
    }

    static int[] catcher(ChipTimers x, int k) {
        int[] row = new int[7];
        for (int what = 0; what < row.length; what++) {
            row[what] = x.ofCatcher(k, what);
        }
        return row;
    }

    static int[] channel(ChipTimers x, int k) {
        int[] row = new int[9];
        for (int what = 0; what < row.length; what++) {
            row[what] = x.ofChannel(k, what);
        }
        return row;
    }

    static int[] pins(ChipTimers x) {
        int[] row = new int[8];
        for (int p = 0; p < row.length; p++) {
            row[p] = x.pin(p);
        }
        return row;
    }

    static int[] entry(ChipTimers x, int k) {
        return new int[] {x.record(k, 0), x.record(k, 1), x.record(k, 2)};
    }

    static int[] crossed(ChipTimers x) {
        int[] row = new int[5];
        for (int what = 0; what < row.length; what++) {
            row[what] = x.crossed(what);
        }
        return row;
    }

    static int[] many(ChipTimers x) {
        int[] row = new int[6];
        for (int what = 0; what < row.length; what++) {
            row[what] = x.many(what);
        }
        return row;
    }

    /** Everything, by 209 calls: two of these still leave a third of an object's 512 calls. */
    static int[] all(ChipTimers x) {
        java.util.ArrayList<int[]> rows = new java.util.ArrayList<>();
        for (int k = 0; k < 4; k++) {
            rows.add(counter(x, k));
            rows.add(input(x, k));
            rows.add(catcher(x, k));
            rows.add(channel(x, k));
        }
        rows.add(pins(x));
        for (int k = 0; k < 24; k++) {
            rows.add(entry(x, k));
        }
        rows.add(new int[] {x.wide(0), x.wide(1)});
        rows.add(crossed(x));
        rows.add(many(x));
        return rows.stream().flatMapToInt(java.util.Arrays::stream).toArray();
    }
}
