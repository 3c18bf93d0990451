import java.util.Random;

/** Long mixed runs of calls, each answer compared with the model's; the seeds are fixed. */
public final class ModelTest {
    private static final Due due = new Due("ModelTest");
    private static final int RUNS = 3000;
    private static final int CALLS = 512;

    private static final String[] CHANGES = {
        "counter", "source", "count", "top", "input", "input", "input", "filter", "catcher", "taken", "ticks", "ticks",
        "ticks", "ticks", "ticks", "channel", "outputs", "brake", "arm", "arm", "holds", "read", "read", "slow"
    };
    private static final String[] QUESTIONS = {
        "ofCounter", "ofInput", "ofCatcher", "ofChannel", "pin", "record", "wide", "crossed", "many"
    };

    public static void main(String[] args) {
        for (int run = 0; run < RUNS; run++) {
            oneRun(new Random(run), run);
        }
        due.end();
    }

    private static void oneRun(Random random, int run) {
        ChipTimers x = new ChipTimers();
        Model model = new Model();
        // Small TOPS make OVERS frequent; in some runs all is set up at first and then left to go.
        int reach = random.nextBoolean() ? 6 : 120;
        int settled = random.nextInt(CALLS);
        for (int i = 0; i < CALLS; i++) {
            boolean asks = random.nextInt(3) > 0;
            String name = pick(random, asks ? QUESTIONS : CHANGES);
            if (i > settled && (name.equals("counter") || name.equals("channel") || name.equals("slow"))) {
                name = "ticks";
            }
            int[] p = parameters(random, name, reach);
            if (random.nextInt(25) == 0) {
                p[random.nextInt(4)] = wild(random);
            }
            String told = "run " + run + ", call " + i + ": " + name + java.util.Arrays.toString(p);
            due.is(told, call(x, name, p), model.call(name, p[0], p[1], p[2], p[3]));
        }
    }

    private static String pick(Random random, String[] names) {
        return names[random.nextInt(names.length)];
    }

    private static int wild(Random random) {
        int[] some = {-1, 0, 1, 2, 3, 4, 5, 7, 8, 9, 16, 17, 20, 21, 23, 24, 64, 65, 9999, 10000, Integer.MIN_VALUE,
            Integer.MAX_VALUE};
        return some[random.nextInt(some.length)];
    }

    private static int[] parameters(Random r, String name, int reach) {
        int k = r.nextInt(4);
        switch (name) {
            case "counter":
                return new int[] {k, r.nextInt(2) * r.nextInt(3), 1 + r.nextInt(reach),
                    r.nextBoolean() ? 1 : 1 + r.nextInt(4)};
            case "source":
                return new int[] {k, k % 2 == 1 && r.nextBoolean() ? 2 : r.nextInt(4), 0, 0};
            case "count":
            case "top":
                return new int[] {k, r.nextInt(reach + 1), 0, 0};
            case "ofCounter":
            case "ofChannel":
                return new int[] {k, r.nextInt(9), 0, 0};
            case "input":
                return new int[] {k, r.nextInt(2), 0, 0};
            case "filter":
                return new int[] {k, 1 + r.nextInt(r.nextBoolean() ? 2 : 8), 0, 0};
            case "ofInput":
                return new int[] {k, r.nextInt(4), 0, 0};
            case "catcher":
                return new int[] {k, r.nextInt(4), r.nextInt(4), 1 + r.nextInt(4)};
            case "ofCatcher":
                return new int[] {k, r.nextInt(7), 0, 0};
            case "ticks":
                return new int[] {r.nextInt(20) == 0 ? r.nextInt(401) : r.nextInt(5), 0, 0, 0};
            case "channel":
                return new int[] {k, r.nextInt(4), r.nextInt(5), r.nextInt(reach + 1)};
            case "outputs":
                return new int[] {k, r.nextBoolean() ? r.nextInt(4) : r.nextInt(21), r.nextInt(4), r.nextInt(4)};
            case "pin":
                return new int[] {r.nextInt(8), 0, 0, 0};
            case "record":
                return new int[] {r.nextInt(24), r.nextInt(3), 0, 0};
            case "holds":
            case "read":
                return new int[] {r.nextInt(2), r.nextInt(2), 0, 0};
            case "wide":
                return new int[] {r.nextInt(2), 0, 0, 0};
            case "slow":
                return new int[] {2 + r.nextInt(r.nextBoolean() ? 2 : 15), k, r.nextInt(2), 0};
            case "crossed":
                return new int[] {r.nextInt(5), 0, 0, 0};
            case "many":
                return new int[] {r.nextInt(6), 0, 0, 0};
            default:
                return new int[] {k, 0, 0, 0};
        }
    }

    private static int call(ChipTimers x, String name, int[] p) {
        switch (name) {
            case "counter": return x.counter(p[0], p[1], p[2], p[3]);
            case "source": return x.source(p[0], p[1]);
            case "count": return x.count(p[0], p[1]);
            case "top": return x.top(p[0], p[1]);
            case "ofCounter": return x.ofCounter(p[0], p[1]);
            case "input": return x.input(p[0], p[1]);
            case "filter": return x.filter(p[0], p[1]);
            case "ofInput": return x.ofInput(p[0], p[1]);
            case "catcher": return x.catcher(p[0], p[1], p[2], p[3]);
            case "taken": return x.taken(p[0]);
            case "ofCatcher": return x.ofCatcher(p[0], p[1]);
            case "ticks": return x.ticks(p[0]);
            case "channel": return x.channel(p[0], p[1], p[2], p[3]);
            case "outputs": return x.outputs(p[0], p[1], p[2], p[3]);
            case "ofChannel": return x.ofChannel(p[0], p[1]);
            case "pin": return x.pin(p[0]);
            case "brake": return x.brake();
            case "arm": return x.arm();
            case "record": return x.record(p[0], p[1]);
            case "holds": return x.holds(p[0], p[1]);
            case "read": return x.read(p[0], p[1]);
            case "wide": return x.wide(p[0]);
            case "slow": return x.slow(p[0], p[1], p[2]);
            case "crossed": return x.crossed(p[0]);
            case "many": return x.many(p[0]);
            default: throw new IllegalArgumentException(name);
        }
    }
}
