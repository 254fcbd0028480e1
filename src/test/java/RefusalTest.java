import java.util.Random;

/** A call that is refused, throws or only asks changes nothing. */
public final class RefusalTest {
    private static final int RUNS = 2000;
    private static final int CALLS = 100;

    public static void main(String[] args) {
        int refused = 0;
        for (int run = 0; run < RUNS; run++) {
            refused += oneRun(new Random(run), run);
        }
        Check.yes("many calls are refused", refused > RUNS);
        Check.end();
    }

    /** Makes on one object all calls, on another only those that were done; both must be alike. */
    private static int oneRun(Random random, int run) {
        BridgeNet all = new BridgeNet();
        BridgeNet done = new BridgeNet();
        int refused = 0;
        for (int i = 0; i < CALLS; i++) {
            Call call = Call.random(random, 3);
            String answer = call.on(all);
            boolean isRefused = answer.equals("false") || answer.startsWith("throws.");
            if (isRefused) {
                refused++;
            } else if (!call.isQuery() && !call.on(done).equals(answer)) {
                Check.report("run " + run + ": " + call + " answers otherwise after refusals");
            }
        }
        if (!Nets.snapshot(all).equals(Nets.snapshot(done))) {
            Check.report("run " + run + ": a refused call or a question changed something");
        }
        return refused;
    }
}
