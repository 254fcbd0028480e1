import java.util.Random;
import java.util.function.Consumer;

/** Nets in the midst of their work, made alike, to see whether a call changes one of them. */
final class Twins {
    private static final int LATER_RUNS = 4;
    private static final int LATER_CALLS = 200;

    private Twins() {
    }

    /**
     * Bridges 0, 1 and 2 in a ring, 3 behind 2, bridge 4 unused; lines with messages of all kinds,
     * ports of all roles and states, stations in both VLANs, 4 to 7 of them nowhere, and an odd
     * number of ticks gone by. Port 3 of bridge 0, and ports 1 to 3 of bridge 3 are free.
     */
    static BridgeNet lively() {
        BridgeNet x = new BridgeNet();
        x.priority(3, 9);
        x.priority(4, 2);
        x.set(1, 0, 7, 3);
        x.set(3, 2, 33, 1);
        x.link(0, 0, 1, 0);
        x.link(1, 1, 2, 0);
        x.link(2, 1, 0, 1);
        deliverInTheRing(x);
        x.attach(0, 0, 2, 1);
        x.attach(1, 1, 2, 1);
        x.attach(2, 2, 2, 2);
        x.attach(3, 1, 3, 2);
        deliverInTheRing(x);
        x.send(1, 0, 5);
        x.send(2, 8, -6);
        x.deliver(0, 0);
        x.link(2, 3, 3, 0);
        Nets.ticks(x, 5);
        x.deliver(3, 0);
        x.send(0, 1, 70);
        return x;
    }

    /** Fewer calls than Nets.settle makes, so that 512 leave room for a look at all that is there. */
    private static void deliverInTheRing(BridgeNet x) {
        for (int round = 0; round < 6; round++) {
            for (int end = 0; end < 6; end++) {
                x.deliver(end / 2, end % 2);
            }
        }
    }

    /** A call that is refused, throws or only asks must leave all as it was, seen and unseen. */
    static void unchanged(String what, Consumer<BridgeNet> call) {
        BridgeNet called = lively();
        makeOn(called, call);
        if (!Nets.snapshot(called).equals(Nets.snapshot(lively()))) {
            Check.report(what + " changed something");
            return;
        }
        for (int seed = 0; seed < LATER_RUNS; seed++) {
            BridgeNet late = lively();
            makeOn(late, call);
            if (!later(late, seed).equals(later(lively(), seed))) {
                Check.report(what + " changed what comes later");
                return;
            }
        }
    }

    private static void makeOn(BridgeNet x, Consumer<BridgeNet> call) {
        try {
            call.accept(x);
        } catch (RuntimeException e) {
            // Which exception is due is checked where the call's own promise is.
        }
    }

    /** What cannot be asked for, such as costs and VLANs, shows in a run of further calls. */
    private static String later(BridgeNet x, int seed) {
        Random random = new Random(seed);
        StringBuilder text = new StringBuilder();
        for (int i = 0; i < LATER_CALLS; i++) {
            Call call = Call.random(random, 20);
            text.append(call).append(' ').append(call.on(x)).append('\n');
        }
        return text.toString();
    }
}
