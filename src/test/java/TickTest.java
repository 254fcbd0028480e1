/** Promise 10: tick. */
public final class TickTest {
    public static void main(String[] args) {
        infoLivesSixTicks();
        everyInfoLosesLife();
        placesLiveTwelveTicks();
        everyPlaceIsForgotten();
        discardingForFourTicks();
        learningForFourTicks();
        forwardingByWaitingStays();
        everyPortWaitsForItself();
        portsThatDoNotWait();
        computesAfterTheLives();
        waitsBeforeItComputes();
        tellsAtEverySecondTick();
        ticksCountFromTheStart();
        tellsOfAChangeToo();
        Check.end();
    }

    private static void infoSentence() {
        Check.sentence("each INFO's life falls by 1, and the INFO goes at 0");
    }

    private static void infoLivesSixTicks() {
        infoSentence();
        BridgeNet x = Nets.pair();
        for (int life = 5; life >= 1; life--) {
            x.tick();
            Check.same("info", x.info(1, 0), Nets.info(64, 0, 64, 0, 0, life));
            Check.same("root", x.root(1), Nets.root(64, 10, 1));
            Check.same("root port", x.port(1, 0), Nets.ROOT_PORT);
        }
        x.tick();
        Check.same("the sixth tick", x.info(1, 0), -1);
        x.tick();
        Check.same("the seventh tick", x.info(1, 0), -1);
    }

    private static void everyInfoLosesLife() {
        infoSentence();
        BridgeNet x = new BridgeNet();
        for (int b = 1; b < 5; b++) {
            x.link(0, b - 1, b, 3);
            x.deliver(b, 3);
            x.deliver(0, b - 1);
            x.tick();
        }
        for (int b = 1; b < 5; b++) {
            Check.same("at " + b, x.info(b, 3), Nets.info(64, 0, 64, b - 1, 0, 1 + b));
            Check.same("from " + b, x.info(0, b - 1), Nets.info(64 + b, 0, 64 + b, 3, 0, 1 + b));
        }
        for (int gone = 1; gone < 5; gone++) {
            x.tick();
            x.tick();
            for (int b = 1; b < 5; b++) {
                int life = 1 + b - 2 * gone;
                Check.same("at " + b + " later", x.info(b, 3),
                        life > 0 ? Nets.info(64, 0, 64, b - 1, 0, life) : -1);
            }
        }
    }

    private static void placeSentence() {
        Check.sentence("each learned place's ticks fall by 1, and it is forgotten at 0");
    }

    private static void placesLiveTwelveTicks() {
        placeSentence();
        BridgeNet x = new BridgeNet();
        x.attach(0, 0, 0, 1);
        x.attach(1, 0, 1, 2);
        x.send(0, 8, 1);
        Nets.ticks(x, 5);
        x.send(1, 8, 1);
        Nets.ticks(x, 6);
        Check.same("after 11", x.learned(0, 0, 1), 0);
        x.tick();
        Check.same("after 12", x.learned(0, 0, 1), -1);
        Check.same("after 7", x.learned(0, 1, 2), 1);
        Nets.ticks(x, 4);
        Check.same("after 11", x.learned(0, 1, 2), 1);
        x.tick();
        Check.same("after 12", x.learned(0, 1, 2), -1);
        x.send(0, 1, 1);
        Check.same("learned anew", x.learned(0, 0, 1), 0);
        Nets.ticks(x, 11);
        Check.same("for twelve ticks anew", x.learned(0, 0, 1), 0);
        x.tick();
        Check.same("and no more", x.learned(0, 0, 1), -1);
    }

    private static void everyPlaceIsForgotten() {
        placeSentence();
        BridgeNet x = new BridgeNet();
        for (int s = 0; s < 8; s++) {
            x.attach(s, s % 5, s / 5, 1 + s % 2);
            x.send(s, 9, 1);
        }
        Nets.ticks(x, 11);
        for (int s = 0; s < 8; s++) {
            Check.same("station " + s + " after 11", x.learned(s % 5, s, 1 + s % 2), s / 5);
        }
        x.tick();
        for (int s = 0; s < 8; s++) {
            Check.same("station " + s + " after 12", x.learned(s % 5, s, 1 + s % 2), -1);
        }
    }

    private static void waitSentence() {
        Check.sentence("each linked DESIGNATED port that is not FORWARDING waits a tick less, and at"
                + " 0 DISCARDING becomes LEARNING, waiting 4 ticks, LEARNING becomes FORWARDING, no"
                + " more PROPOSING");
    }

    private static void discardingForFourTicks() {
        waitSentence();
        BridgeNet x = new BridgeNet();
        x.link(0, 0, 1, 0);
        for (int waits = 4; waits >= 1; waits--) {
            Check.same("first end", x.port(0, 0), Nets.proposing(Nets.DISCARDING, waits));
            Check.same("other end", x.port(1, 0), Nets.proposing(Nets.DISCARDING, waits));
            x.tick();
        }
        Check.same("first end", x.port(0, 0), Nets.proposing(Nets.LEARNING, 4));
        Check.same("other end", x.port(1, 0), Nets.proposing(Nets.LEARNING, 4));
    }

    private static void learningForFourTicks() {
        waitSentence();
        BridgeNet x = new BridgeNet();
        x.link(0, 0, 1, 0);
        Nets.ticks(x, 4);
        for (int waits = 4; waits >= 1; waits--) {
            Check.same("first end", x.port(0, 0), Nets.proposing(Nets.LEARNING, waits));
            Check.same("other end", x.port(1, 0), Nets.proposing(Nets.LEARNING, waits));
            x.tick();
        }
        Check.same("first end", x.port(0, 0), 2 + 4 * 2);
        Check.same("other end", x.port(1, 0), 2 + 4 * 2);
    }

    private static void forwardingByWaitingStays() {
        waitSentence();
        BridgeNet x = new BridgeNet();
        x.link(0, 0, 1, 0);
        Nets.ticks(x, 8);
        for (int i = 0; i < 10; i++) {
            x.tick();
            Check.same("forwarding", x.port(0, 0), 2 + 4 * 2);
        }
    }

    private static void everyPortWaitsForItself() {
        waitSentence();
        BridgeNet x = new BridgeNet();
        x.link(0, 0, 1, 0);
        Nets.ticks(x, 3);
        x.link(0, 1, 2, 0);
        x.tick();
        Check.same("the first", x.port(0, 0), Nets.proposing(Nets.LEARNING, 4));
        Check.same("the second", x.port(0, 1), Nets.proposing(Nets.DISCARDING, 3));
    }

    private static void portsThatDoNotWait() {
        waitSentence();
        BridgeNet x = new BridgeNet();
        x.link(0, 0, 1, 0);
        x.link(0, 1, 1, 1);
        x.attach(0, 0, 2, 1);
        Nets.settle(x);
        for (int i = 0; i < 5; i++) {
            x.tick();
            Check.same("an agreed port", x.port(0, 0), Nets.AGREED_PORT);
            Check.same("a station's port", x.port(0, 2), Nets.STATION_PORT);
            Check.same("a free port", x.port(0, 3), Nets.FREE);
            Check.same("a root port", x.port(1, 0), Nets.ROOT_PORT);
            Check.same("a blocked port", x.port(1, 1), Nets.BLOCKED_PORT);
        }
    }

    private static void computesAfterTheLives() {
        Check.sentence("the bridge computes");
        BridgeNet x = Nets.pair();
        Nets.ticks(x, 5);
        Check.same("root before", x.root(1), Nets.root(64, 10, 1));
        x.tick();
        Check.same("at the tick at which the INFO goes", x.root(1), 65);
        Check.same("the root port that was", x.port(1, 0), Nets.proposing(Nets.DISCARDING, 4));
    }

    /** A port that becomes designated at a tick has its whole wait before it. */
    private static void waitsBeforeItComputes() {
        Check.sentence("the bridge computes");
        BridgeNet x = Nets.pair();
        Nets.ticks(x, 6);
        Check.same("at the tick", x.port(1, 0), Nets.proposing(Nets.DISCARDING, 4));
        x.tick();
        Check.same("a tick later", x.port(1, 0), Nets.proposing(Nets.DISCARDING, 3));
    }

    private static void tellsSentence() {
        Check.sentence("then, at every second tick (the second, fourth, ..), it tells on each linked"
                + " DESIGNATED port.");
    }

    private static void tellsAtEverySecondTick() {
        tellsSentence();
        BridgeNet x = Nets.pair();
        x.attach(0, 0, 1, 1);
        Nets.drain(x, 1, 0);
        for (int i = 1; i <= 5; i++) {
            x.tick();
            Check.same("after tick " + i, x.line(1, 0), i / 2);
            Check.same("the root port does not tell", x.line(0, 0), 0);
            Check.same("a station is not told", x.line(0, 1), 0);
        }
        Check.same("told", x.message(1, 0, 0), Nets.tell(64));
    }

    private static void ticksCountFromTheStart() {
        tellsSentence();
        for (int before = 0; before < 4; before++) {
            BridgeNet x = new BridgeNet();
            Nets.ticks(x, before);
            x.link(0, 0, 1, 0);
            Check.same("told by computing", x.line(1, 0), 1);
            x.tick();
            Check.same("after tick " + (before + 1), x.line(1, 0), 1 + before % 2);
            x.tick();
            Check.same("after tick " + (before + 2), x.line(1, 0), 2);
        }
    }

    private static void tellsOfAChangeToo() {
        tellsSentence();
        BridgeNet x = Nets.row();
        Nets.ticks(x, 5);
        Nets.drain(x, 2, 0);
        Nets.drain(x, 1, 1);
        x.tick();
        Check.same("the root is gone after six", x.root(1), 65);
        Check.same("told by computing and by the tick", x.line(2, 0), 2);
        Check.same("first the change", x.message(2, 0, 0), Nets.tell(65));
        Check.same("and again", x.message(2, 0, 1), Nets.tell(65));
        Check.same("told on the port that was the root port", x.line(0, 1), 2);
        Check.same("2 too lost its info", x.root(2), 66);
    }
}
