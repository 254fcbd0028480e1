import java.util.Random;

/** An object is good for 512 calls, whatever they are. */
public final class CallsTest {
    private static final int CALLS = 512;

    public static void main(String[] args) {
        Check.sentence("An object is used for at most 512 calls after it has been made");
        ticks();
        sends();
        lines();
        moves();
        cutsAndLinks();
        priorities();
        refusals();
        everyCallAsTheLast();
        Check.end();
    }

    /** All ports linked, so that a tick has as much to do as it can have. */
    private static void ticks() {
        BridgeNet x = new BridgeNet();
        int calls = 0;
        for (int b = 0; b < 5; b++) {
            Check.yes("link", x.link(b, 0, (b + 1) % 5, 1));
            Check.yes("link", x.link(b, 2, (b + 2) % 5, 3));
            calls += 2;
        }
        for (; calls < CALLS - 1; calls++) {
            x.tick();
        }
        Check.same("the last call", x.line(4, 3), 12);
    }

    private static void sends() {
        BridgeNet x = new BridgeNet();
        for (int s = 0; s < 4; s++) {
            x.attach(s, 0, s, 1);
        }
        for (int calls = 4; calls < CALLS - 1; calls++) {
            Check.same("send", x.send(calls % 4, 8, calls), 3);
        }
        Check.same("the last call", x.inbox(3, 39), Nets.kept(0, 8, 56));
    }

    /** The places of a line go round and round. */
    private static void lines() {
        BridgeNet x = new BridgeNet();
        x.link(0, 0, 1, 0);
        x.deliver(1, 0);
        x.deliver(0, 0);
        x.deliver(0, 0);
        x.attach(0, 1, 1, 1);
        for (int calls = 5; calls < CALLS - 1; calls += 2) {
            Check.same("send", x.send(0, 1 + calls % 7, calls), 1);
            Check.same("deliver", x.deliver(0, 0), Nets.FRAME);
        }
        Check.same("the last call", x.line(0, 0), 0);
    }

    private static void moves() {
        BridgeNet x = new BridgeNet();
        for (int calls = 0; calls < CALLS - 1; calls++) {
            x.attach(calls % 8, calls % 5, calls / 5 % 4, 1 + calls % 2);
        }
        Check.same("the last call", x.port((CALLS - 2) % 5, (CALLS - 2) / 5 % 4), Nets.STATION_PORT);
    }

    private static void cutsAndLinks() {
        BridgeNet x = new BridgeNet();
        for (int calls = 0; calls < CALLS - 2; calls += 2) {
            Check.yes("link", x.link(3, 3, 4, 0));
            Check.yes("cut", x.cut(4, 0));
        }
        Check.yes("the last but one", x.link(3, 3, 4, 0));
        Check.same("the last call", x.port(4, 0), Nets.proposing(Nets.DISCARDING, 4));
    }

    private static void priorities() {
        BridgeNet x = new BridgeNet();
        for (int calls = 0; calls < CALLS - 1; calls++) {
            Check.yes("priority", x.priority(calls % 5, calls % 16));
        }
        Check.same("the last call", x.root(0), 8 * (510 % 16));
    }

    private static void refusals() {
        BridgeNet x = new BridgeNet();
        for (int calls = 0; calls < CALLS - 1; calls++) {
            int s = calls;
            Check.thrown("send", s < 8 ? IllegalStateException.class : IndexOutOfBoundsException.class,
                    () -> x.send(s, 8, 1));
        }
        Check.same("the last call", x.root(0), 64);
    }

    /** Calls of every name, each as the 512th of a run, held against the plain model. */
    private static void everyCallAsTheLast() {
        for (int run = 0; run < 320; run++) {
            Random random = new Random(run);
            BridgeNet x = new BridgeNet();
            Model m = new Model();
            for (int calls = 0; calls < CALLS - 1; calls++) {
                Call call = Call.random(random, 20);
                call.on(x);
                call.on(m);
            }
            Call last = Call.random(random, 20, run % Call.NAMES.length);
            if (!last.on(x).equals(last.on(m))) {
                Check.report("run " + run + ": " + last + " as the last call");
            }
        }
    }
}
