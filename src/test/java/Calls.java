import java.util.Random;

/** The calls by name, so that tests can draw them. */
final class Calls {
    static final String[] NAMES = {
        "counter", "source", "count", "top", "ofCounter", "input", "filter", "ofInput", "catcher", "taken", "ofCatcher",
        "ticks", "channel", "outputs", "ofChannel", "pin", "brake", "arm", "record", "holds", "read", "wide", "slow",
        "crossed", "many"
    };

    private Calls() {
    }

    /** Takes as many of the numbers as the call has. */
    static int on(ChipTimers x, String name, int[] p) {
        switch (name) {
            case "counter": return x.counter(p[0], p[1], p[2], p[3]);
            case "source": return x.source(p[0], p[1]);
            case "count": return x.count(p[0], p[1]);
            case "top": return x.top(p[0], p[1]);
            case "ofCounter": return x.ofCounter(p[0], p[1]);
            case "input": return x.input(p[0], p[1]);
            case "filter": return x.filter(p[0], p[1]);
            case "ofInput": return x.ofInput(p[0], p[1]);
            case "catcher": return x.catcher(p[0], p[1], p[2], p[3]);
            case "taken": return x.taken(p[0]);
            case "ofCatcher": return x.ofCatcher(p[0], p[1]);
            case "ticks": return x.ticks(p[0]);
            case "channel": return x.channel(p[0], p[1], p[2], p[3]);
            case "outputs": return x.outputs(p[0], p[1], p[2], p[3]);
            case "ofChannel": return x.ofChannel(p[0], p[1]);
            case "pin": return x.pin(p[0]);
            case "brake": return x.brake();
            case "arm": return x.arm();
            case "record": return x.record(p[0], p[1]);
            case "holds": return x.holds(p[0], p[1]);
            case "read": return x.read(p[0], p[1]);
            case "wide": return x.wide(p[0]);
            case "slow": return x.slow(p[0], p[1], p[2]);
            case "crossed": return x.crossed(p[0]);
            case "many": return x.many(p[0]);
            default: throw new IllegalArgumentException(name);
        }
    }

    /** Numbers that fit this call most of the time; reach is the greatest TOP. */
    static int[] numbers(Random r, String name, int reach) {
        int k = r.nextInt(4);
        switch (name) {
            case "counter":
                return new int[] {k, r.nextInt(2) * r.nextInt(3), 1 + r.nextInt(reach),
                    r.nextBoolean() ? 1 : 1 + r.nextInt(4)};
            case "source":
                return new int[] {k, k % 2 == 1 && r.nextBoolean() ? 2 : r.nextInt(4), 0, 0};
            case "count":
            case "top":
                return new int[] {k, r.nextInt(reach + 1), 0, 0};
            case "ofCounter":
            case "ofChannel":
                return new int[] {k, r.nextInt(9), 0, 0};
            case "input":
                return new int[] {k, r.nextInt(2), 0, 0};
            case "filter":
                return new int[] {k, 1 + r.nextInt(r.nextBoolean() ? 2 : 8), 0, 0};
            case "ofInput":
                return new int[] {k, r.nextInt(4), 0, 0};
            case "catcher":
                return new int[] {k, r.nextInt(4), r.nextInt(4), 1 + r.nextInt(4)};
            case "ofCatcher":
                return new int[] {k, r.nextInt(7), 0, 0};
            case "ticks":
                return new int[] {r.nextInt(20) == 0 ? r.nextInt(401) : r.nextInt(5), 0, 0, 0};
            case "channel":
                return new int[] {k, r.nextInt(4), r.nextInt(5), r.nextInt(reach + 1)};
            case "outputs":
                return new int[] {k, r.nextBoolean() ? r.nextInt(4) : r.nextInt(21), r.nextInt(4), r.nextInt(4)};
            case "pin":
                return new int[] {r.nextInt(8), 0, 0, 0};
            case "record":
                return new int[] {r.nextInt(24), r.nextInt(3), 0, 0};
            case "holds":
            case "read":
                return new int[] {r.nextInt(2), r.nextInt(2), 0, 0};
            case "wide":
                return new int[] {r.nextInt(2), 0, 0, 0};
            case "slow":
                return new int[] {2 + r.nextInt(r.nextBoolean() ? 2 : 15), k, r.nextInt(2), 0};
            case "crossed":
                return new int[] {r.nextInt(5), 0, 0, 0};
            case "many":
                return new int[] {r.nextInt(6), 0, 0, 0};
            default:
                return new int[] {k, 0, 0, 0};
        }
    }
}
