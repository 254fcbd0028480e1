/** Promise 10: tick. */
public final class TickTest {
    public static void main(String[] args) {
        infoLivesSixTicks();
        placesLiveTwelveTicks();
        waitingEndsInForwarding();
        waitingStartsWithTheRole();
        agreedPortsDoNotWait();
        tellsAtEverySecondTick();
        computesAndTells();
        Check.end();
    }

    private static void infoLivesSixTicks() {
        BridgeNet x = Nets.pair();
        Nets.drain(x, 1, 0);
        for (int life = 5; life >= 1; life--) {
            x.tick();
            Check.same("info", x.info(1, 0), Nets.info(64, 0, 64, 0, 0, life));
            Check.same("root", x.root(1), Nets.root(64, 10, 1));
            Check.same("root port", x.port(1, 0), Nets.ROOT_PORT);
        }
        x.tick();
        Check.same("the info goes", x.info(1, 0), -1);
        Check.same("the bridge computes", x.root(1), 65);
        Check.same("designated", x.port(1, 0), Nets.proposing(Nets.DISCARDING, 4));
    }

    private static void placesLiveTwelveTicks() {
        BridgeNet x = new BridgeNet();
        x.attach(0, 0, 0, 1);
        x.attach(1, 0, 1, 2);
        x.send(0, 8, 1);
        Nets.ticks(x, 5);
        x.send(1, 8, 1);
        Nets.ticks(x, 6);
        Check.same("after 11", x.learned(0, 0, 1), 0);
        x.tick();
        Check.same("after 12", x.learned(0, 0, 1), -1);
        Check.same("after 7", x.learned(0, 1, 2), 1);
        x.send(1, 8, 1);
        Nets.ticks(x, 11);
        Check.same("12 ticks from the last frame on", x.learned(0, 1, 2), 1);
        x.tick();
        Check.same("forgotten", x.learned(0, 1, 2), -1);
        x.tick();
        x.send(0, 1, 1);
        Check.same("learned anew", x.learned(0, 0, 1), 0);
    }

    private static void waitingEndsInForwarding() {
        BridgeNet x = new BridgeNet();
        x.link(0, 0, 1, 0);
        for (int waits = 4; waits >= 1; waits--) {
            Check.same("discarding", x.port(0, 0), Nets.proposing(Nets.DISCARDING, waits));
            Check.same("discarding", x.port(1, 0), Nets.proposing(Nets.DISCARDING, waits));
            x.tick();
        }
        for (int waits = 4; waits >= 1; waits--) {
            Check.same("learning", x.port(0, 0), Nets.proposing(Nets.LEARNING, waits));
            Check.same("learning", x.port(1, 0), Nets.proposing(Nets.LEARNING, waits));
            x.tick();
        }
        Check.same("forwarding, not agreed", x.port(0, 0), Nets.STATION_PORT);
        Nets.ticks(x, 10);
        Check.same("it stays so", x.port(0, 0), Nets.STATION_PORT);
    }

    private static void waitingStartsWithTheRole() {
        BridgeNet x = new BridgeNet();
        x.link(0, 0, 1, 0);
        Nets.ticks(x, 3);
        x.link(0, 1, 2, 0);
        x.tick();
        Check.same("the first", x.port(0, 0), Nets.proposing(Nets.LEARNING, 4));
        Check.same("the second", x.port(0, 1), Nets.proposing(Nets.DISCARDING, 3));
    }

    private static void agreedPortsDoNotWait() {
        BridgeNet x = Nets.pair();
        x.tick();
        Check.same("agreed", x.port(0, 0), Nets.AGREED_PORT);
        Check.same("root port", x.port(1, 0), Nets.ROOT_PORT);
    }

    private static void tellsAtEverySecondTick() {
        BridgeNet x = Nets.pair();
        for (int i = 1; i <= 5; i++) {
            x.tick();
            Check.same("after tick " + i, x.line(1, 0), i / 2);
            Check.same("the root port does not tell", x.line(0, 0), 0);
        }
        Check.same("told", x.message(1, 0, 0), Nets.tell(64));

        BridgeNet odd = new BridgeNet();
        odd.tick();
        odd.link(0, 0, 1, 0);
        odd.tick();
        Check.same("ticks count from the start", odd.line(1, 0), 2);
        odd.tick();
        Check.same("the third", odd.line(1, 0), 2);
    }

    private static void computesAndTells() {
        BridgeNet x = Nets.row();
        x.tick();
        Nets.ticks(x, 4);
        Nets.drain(x, 2, 0);
        Nets.drain(x, 1, 1);
        x.tick();
        Check.same("the root is gone after six", x.root(1), 65);
        Check.same("told by computing and by the tick", x.line(2, 0), 2);
        Check.same("first the change", x.message(2, 0, 0), Nets.tell(65));
        Check.same("and again", x.message(2, 0, 1), Nets.tell(65));
        Check.same("told on the port that was the root port", x.line(0, 1), 2);
        Check.same("2 too lost its info", x.root(2), 66);
    }
}
