import java.util.Random;

/** All promises: long random runs of calls, each answer held against the plain model's. */
public final class ModelTest {
    private static final int RUNS = 3000;
    private static final int CALLS = 512;

    public static void main(String[] args) {
        for (int run = 0; run < RUNS; run++) {
            oneRun(new Random(run), run);
        }
        Check.end();
    }

    private static void oneRun(Random random, int run) {
        BridgeNet x = new BridgeNet();
        Model m = new Model();
        for (int i = 0; i < CALLS; i++) {
            Call call = Call.random(random, 20);
            String got = call.on(x);
            String due = call.on(m);
            if (!got.equals(due)) {
                Check.report("run " + run + ", call " + i + ": " + call + " answered " + got
                        + ", due is " + due);
                return;
            }
        }
    }
}
