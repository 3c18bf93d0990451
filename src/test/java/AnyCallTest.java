import java.util.Arrays;
import java.util.Random;

/**
 * Any calls with any numbers: none throws and each ends (rule 7 of the language), and the same calls give the same
 * answers (rule 13); an object answers as is due up to its 512th call.
 */
public final class AnyCallTest {
    private static final Due due = new Due("AnyCallTest");
    private static final int RUNS = 400;
    private static final int CALLS = 512;
    private static final int LATER_CALLS = 600;
    private static final int[] FAR = {
        Integer.MIN_VALUE, Integer.MIN_VALUE + 1, -10000, -256, -9, -4, -3, -2, -1, 4, 5, 6, 7, 8, 9, 15, 16, 17, 20, 21, 23,
        24, 25, 64, 65, 99, 100, 255, 256, 400, 401, 9999, 10000, 16383, 16384, 65536, Integer.MAX_VALUE - 1,
        Integer.MAX_VALUE
    };

    public static void main(String[] args) {
        due.sentence("An object is used for at most 512 calls after it has been made; what later calls answer is free.");
        for (int run = 0; run < RUNS; run++) {
            anyCalls(new Random(run), run);
        }
        for (String name : Calls.NAMES) {
            theLastCall(new Random(name.hashCode()), name);
        }
        due.end();
    }

    private static void anyCalls(Random random, int run) {
        ChipTimers x = new ChipTimers();
        ChipTimers twin = new ChipTimers();
        Model model = new Model();
        for (int i = 0; i < CALLS + LATER_CALLS; i++) {
            String name = Calls.NAMES[random.nextInt(Calls.NAMES.length)];
            int[] p = {any(random), any(random), any(random), any(random)};
            String told = "run " + run + ", call " + (i + 1) + ": " + name + Arrays.toString(p);
            long answer = answer(x, name, p, told);
            due.is(told + " of a twin", answer(twin, name, p, told), answer);
            if (i < CALLS) {
                due.is(told, answer, model.call(name, p[0], p[1], p[2], p[3]));
            }
        }
    }

    /** A call that throws gives no int, so it is told as an answer that none can be. */
    private static long answer(ChipTimers x, String name, int[] p, String told) {
        try {
            return Calls.on(x, name, p);
        } catch (RuntimeException | StackOverflowError thrown) {
            due.holds(told + " throws nothing, not " + thrown, false);
            return Long.MIN_VALUE;
        }
    }

    private static int any(Random random) {
        int kind = random.nextInt(10);
        if (kind == 0) {
            return random.nextInt();
        }
        return kind < 3 ? FAR[random.nextInt(FAR.length)] : random.nextInt(4);
    }

    /** 511 calls, and then this one. */
    private static void theLastCall(Random random, String last) {
        for (int run = 0; run < 30; run++) {
            ChipTimers x = new ChipTimers();
            Model model = new Model();
            for (int i = 1; i < CALLS; i++) {
                String name = Calls.NAMES[random.nextInt(Calls.NAMES.length)];
                int[] p = Calls.numbers(random, name, 9);
                Calls.on(x, name, p);
                model.call(name, p[0], p[1], p[2], p[3]);
            }
            int[] p = Calls.numbers(random, last, 9);
            String told = "call 512 of run " + run + ": " + last + Arrays.toString(p);
            due.is(told, Calls.on(x, last, p), model.call(last, p[0], p[1], p[2], p[3]));
        }
    }
}
