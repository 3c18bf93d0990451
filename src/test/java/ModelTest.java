import java.util.Random;

/** Long mixed runs of calls, each answer compared with the model's; the seeds are fixed. */
public final class ModelTest {
    private static final Due due = new Due("ModelTest");
    private static final int RUNS = 3000;
    private static final int CALLS = 512;

    private static final String[] CHANGES = {
        "counter", "source", "count", "top", "input", "input", "input", "filter", "catcher", "taken", "ticks", "ticks",
        "ticks", "ticks", "ticks", "channel", "outputs", "brake", "arm", "arm", "holds", "read", "read", "slow"
    };
    private static final String[] QUESTIONS = {
        "ofCounter", "ofInput", "ofCatcher", "ofChannel", "pin", "record", "wide", "crossed", "many"
    };

    public static void main(String[] args) {
        for (int run = 0; run < RUNS; run++) {
            oneRun(new Random(run), run);
        }
        due.end();
    }

    private static void oneRun(Random random, int run) {
        ChipTimers x = new ChipTimers();
        Model model = new Model();
        // Small TOPS make OVERS frequent; in some runs all is set up at first and then left to go.
        int reach = random.nextBoolean() ? 6 : 120;
        int settled = random.nextInt(CALLS);
        for (int i = 0; i < CALLS; i++) {
            boolean asks = random.nextInt(3) > 0;
            String name = pick(random, asks ? QUESTIONS : CHANGES);
            if (i > settled && (name.equals("counter") || name.equals("channel") || name.equals("slow"))) {
                name = "ticks";
            }
            int[] p = Calls.numbers(random, name, reach);
            if (random.nextInt(25) == 0) {
                p[random.nextInt(4)] = wild(random);
            }
            String told = "run " + run + ", call " + i + ": " + name + java.util.Arrays.toString(p);
            due.is(told, Calls.on(x, name, p), model.call(name, p[0], p[1], p[2], p[3]));
        }
    }

    private static String pick(Random random, String[] names) {
        return names[random.nextInt(names.length)];
    }

    private static int wild(Random random) {
        int[] some = {-1, 0, 1, 2, 3, 4, 5, 7, 8, 9, 16, 17, 20, 21, 23, 24, 64, 65, 9999, 10000, Integer.MIN_VALUE,
            Integer.MAX_VALUE};
        return some[random.nextInt(some.length)];
    }
}
