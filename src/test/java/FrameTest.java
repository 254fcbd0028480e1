/** What a frame does when it comes to a port, from a line or from the port's station. */
public final class FrameTest {
    public static void main(String[] args) {
        destinations();
        atADiscardingPort();
        atABlockedPort();
        atAPortWithoutTheVlan();
        learnedForTwelveTicks();
        twelveTicksFromTheLastOne();
        atALearningPort();
        reservedAtAForwardingPort();
        toALearnedPlace();
        toAPlaceOnTheSamePort();
        learnedInTheOtherVlan();
        toAPlaceThatIsForgotten();
        toAPlaceBehindAPortThatDoesNotForward();
        forAllOthers();
        outOnAPortThatIsNotForwarding();
        outOnAPortWithoutTheVlan();
        intoAnInboxOfTheVlan();
        theInboxKeepsTheFirstForty();
        onAndOn();
        Check.end();
    }

    private static void destinations() {
        Check.sentence("A FRAME has a source (a station), a destination (a station, 8 for all, 9"
                + " reserved), a VLAN and a value.");
        BridgeNet x = new BridgeNet();
        x.attach(0, 0, 0, 1);
        x.attach(7, 0, 1, 1);
        Check.thrown("-1", IllegalArgumentException.class, () -> x.send(0, -1, 1));
        Check.thrown("10", IllegalArgumentException.class, () -> x.send(0, 10, 1));
        Check.same("the first station", x.send(7, 0, 1), 1);
        Check.same("the last station", x.send(0, 7, 2), 1);
        Check.same("for all", x.send(0, 8, 3), 1);
        Check.same("reserved", x.send(0, 9, 4), 0);
        Check.same("kept by 0", x.inbox(0, 0), Nets.kept(7, 0, 1));
        Check.same("kept by 7", x.inbox(7, 0), Nets.kept(0, 7, 2));
        Check.same("kept by 7", x.inbox(7, 1), Nets.kept(0, 8, 3));
        Check.same("no more", x.inbox(7, -1), 2);
    }

    private static void nothingSentence() {
        Check.sentence("if p is DISCARDING, or the VLAN is not one of p's, it is nothing.");
    }

    /** Bridge 1 forwards on its root port; that of bridge 0 still waits; stations 0 and 1 at each. */
    private static BridgeNet halfOpen() {
        BridgeNet x = new BridgeNet();
        x.link(0, 0, 1, 0);
        x.attach(0, 0, 1, 1);
        x.attach(1, 1, 1, 1);
        x.deliver(1, 0);
        Nets.drain(x, 0, 0);
        return x;
    }

    private static void atADiscardingPort() {
        nothingSentence();
        BridgeNet x = halfOpen();
        Nets.ticks(x, 3);
        Check.same("still discarding", x.port(0, 0), Nets.proposing(Nets.DISCARDING, 1));
        Check.same("sent", x.send(1, 8, 1), 1);
        Check.same("deliver", x.deliver(0, 0), Nets.FRAME);
        Check.same("not learned", x.learned(0, 1, 1), -1);
        Check.same("not passed on", x.inbox(0, -1), 0);
    }

    private static void atABlockedPort() {
        nothingSentence();
        BridgeNet x = new BridgeNet();
        x.link(0, 0, 1, 0);
        x.link(0, 1, 1, 1);
        x.attach(0, 0, 2, 2);
        x.attach(1, 1, 2, 2);
        Nets.settle(x);
        Check.same("out on both links", x.send(0, 8, 1), 2);
        Check.same("at the blocked port", x.deliver(1, 1), Nets.FRAME);
        Check.same("nothing learned", x.learned(1, 0, 2), -1);
        Check.same("nothing kept", x.inbox(1, -1), 0);
        Check.same("at the root port", x.deliver(1, 0), Nets.FRAME);
        Check.same("learned", x.learned(1, 0, 2), 0);
        Check.same("kept once", x.inbox(1, -1), 1);
        Check.same("nothing goes back", x.line(0, 0) + x.line(0, 1), 0);
        Check.same("not out on the blocked port", x.send(1, 8, 1), 1);
    }

    private static void atAPortWithoutTheVlan() {
        nothingSentence();
        for (int vlan = 1; vlan <= 2; vlan++) {
            BridgeNet x = Nets.pair();
            x.attach(0, 0, 1, vlan);
            x.attach(1, 1, 1, vlan);
            Nets.settle(x);
            x.set(1, 0, 10, 3 - vlan);
            x.send(0, 8, 1);
            Check.same("from a line", x.deliver(1, 0), Nets.FRAME);
            Check.same("not learned", x.learned(1, 0, vlan), -1);
            Check.same("not passed on", x.inbox(1, -1), 0);
            x.set(1, 1, 10, 3 - vlan);
            Check.same("from its station", x.send(1, 8, 1), 0);
            Check.same("not learned", x.learned(1, 1, vlan), -1);
            x.set(1, 0, 10, vlan);
            x.set(1, 1, 10, vlan);
            x.send(0, 8, 1);
            x.deliver(1, 0);
            Check.same("with the VLAN alone", x.learned(1, 0, vlan), 0);
            Check.same("with the VLAN alone", x.inbox(1, -1), 1);
        }
    }

    private static void learnSentence() {
        Check.sentence("The bridge LEARNS that the source, in that VLAN, is behind p, for 12 ticks"
                + " from now on.");
    }

    private static void learnedForTwelveTicks() {
        learnSentence();
        BridgeNet x = new BridgeNet();
        x.attach(7, 4, 3, 2);
        x.send(7, 8, 1);
        Check.same("at once", x.learned(4, 7, 2), 3);
        Nets.ticks(x, 11);
        Check.same("after 11", x.learned(4, 7, 2), 3);
        x.tick();
        Check.same("after 12", x.learned(4, 7, 2), -1);
        x.tick();
        Check.same("after 13", x.learned(4, 7, 2), -1);
    }

    private static void twelveTicksFromTheLastOne() {
        learnSentence();
        BridgeNet x = new BridgeNet();
        x.attach(0, 0, 0, 1);
        x.send(0, 8, 1);
        Nets.ticks(x, 11);
        x.send(0, 9, 1);
        Nets.ticks(x, 11);
        Check.same("after 11 more", x.learned(0, 0, 1), 0);
        x.tick();
        Check.same("after 12 more", x.learned(0, 0, 1), -1);
    }

    private static void thatIsAllSentence() {
        Check.sentence("If p is not FORWARDING, or the destination is 9, that is all.");
    }

    private static void atALearningPort() {
        thatIsAllSentence();
        for (int ticks : new int[] {4, 7}) {
            BridgeNet x = halfOpen();
            Nets.ticks(x, 4);
            x.deliver(1, 0);
            Nets.drain(x, 0, 0);
            Nets.ticks(x, ticks - 4);
            Check.same("learning", x.port(0, 0), Nets.proposing(Nets.LEARNING, 8 - ticks));
            Check.same("sent", x.send(1, 8, 2), 1);
            Check.same("deliver", x.deliver(0, 0), Nets.FRAME);
            Check.same("learned", x.learned(0, 1, 1), 0);
            Check.same("not passed on", x.inbox(0, -1), 0);
            Nets.ticks(x, 8 - ticks);
            Check.same("forwarding", x.port(0, 0), Nets.STATION_PORT);
            x.send(1, 8, 3);
            Nets.settle(x);
            Check.same("passed on", x.inbox(0, 0), Nets.kept(1, 8, 3));
        }
    }

    private static void reservedAtAForwardingPort() {
        thatIsAllSentence();
        BridgeNet x = Nets.pair();
        x.attach(0, 0, 1, 1);
        x.attach(1, 0, 2, 1);
        Nets.settle(x);
        Check.same("out on no port", x.send(0, 9, 1), 0);
        Check.same("learned", x.learned(0, 0, 1), 1);
        Check.same("no inbox", x.inbox(1, -1), 0);
        Check.same("no line", x.line(1, 0), 0);
        Check.same("8 is not reserved", x.send(0, 8, 1), 2);
    }

    private static void placeSentence() {
        Check.sentence("If it has learned where the destination is in that VLAN: it goes out on"
                + " that port, if that is another one; otherwise on all others, by number.");
    }

    /** Stations 0 to 3 in VLAN 1 at the four ports of bridge 0. */
    private static BridgeNet fourStations() {
        BridgeNet x = new BridgeNet();
        for (int s = 0; s < 4; s++) {
            x.attach(s, 0, s, 1);
        }
        return x;
    }

    private static void toALearnedPlace() {
        placeSentence();
        for (int to = 0; to < 4; to++) {
            BridgeNet x = fourStations();
            int from = (to + 1) % 4;
            x.send(to, 9, 1);
            Check.same("on one port", x.send(from, to, 5), 1);
            for (int s = 0; s < 4; s++) {
                Check.same("inbox of " + s, x.inbox(s, -1), s == to ? 1 : 0);
            }
        }
    }

    private static void toAPlaceOnTheSamePort() {
        placeSentence();
        BridgeNet x = fourStations();
        Check.same("to itself", x.send(1, 1, 5), 0);
        for (int s = 0; s < 4; s++) {
            Check.same("inbox of " + s, x.inbox(s, -1), 0);
        }
        BridgeNet y = Nets.row();
        y.attach(0, 0, 0, 1);
        y.attach(1, 1, 2, 1);
        y.send(0, 8, 1);
        y.attach(2, 0, 2, 1);
        Nets.settle(y);
        y.attach(0, 4, 0, 1);
        y.send(2, 0, 2);
        y.deliver(1, 0);
        y.deliver(1, 0);
        Check.same("behind the port it came from", y.line(2, 0), 0);
        Check.same("behind the port it came from", y.inbox(1, -1), 1);
    }

    private static void learnedInTheOtherVlan() {
        placeSentence();
        BridgeNet x = Nets.pair();
        x.attach(0, 1, 1, 2);
        x.send(0, 8, 1);
        Nets.settle(x);
        x.attach(1, 0, 1, 1);
        x.attach(2, 0, 2, 1);
        Check.same("learned in VLAN 2", x.learned(0, 0, 2), 0);
        Check.same("in VLAN 1 on all others", x.send(1, 0, 2), 2);
    }

    private static void toAPlaceThatIsForgotten() {
        placeSentence();
        BridgeNet x = fourStations();
        x.send(0, 9, 1);
        Nets.ticks(x, 11);
        Check.same("learned", x.send(1, 0, 2), 1);
        x.tick();
        Check.same("forgotten", x.send(1, 0, 3), 3);
    }

    /** It goes out on that port or on none, even if the port lets nothing out. */
    private static void toAPlaceBehindAPortThatDoesNotForward() {
        placeSentence();
        BridgeNet x = fourStations();
        x.send(0, 9, 1);
        x.set(0, 0, 10, 2);
        Check.same("a port without the VLAN", x.send(1, 0, 2), 0);
        Check.same("on no other", x.inbox(2, -1), 0);
        BridgeNet y = new BridgeNet();
        y.link(1, 1, 2, 0);
        Nets.ticks(y, 8);
        y.attach(0, 2, 1, 1);
        y.attach(1, 1, 2, 1);
        y.attach(2, 1, 3, 1);
        Nets.drain(y, 1, 1);
        y.send(0, 8, 1);
        y.deliver(1, 1);
        Check.same("learned behind the link", y.learned(1, 0, 1), 1);
        Check.same("FORWARDING by waiting", y.send(1, 0, 2), 1);
        y.link(0, 0, 1, 0);
        y.deliver(1, 0);
        Check.same("DISCARDING by a proposal", y.port(1, 1), Nets.proposing(Nets.DISCARDING, 4));
        Check.same("learned still", y.learned(1, 0, 1), 1);
        Check.same("a port that is DISCARDING", y.send(1, 0, 3), 0);
        Check.same("on no other", y.inbox(2, -1), 1);
    }

    private static void forAllOthers() {
        placeSentence();
        for (int from = 0; from < 4; from++) {
            BridgeNet x = fourStations();
            Check.same("for all", x.send(from, 8, 5), 3);
            for (int s = 0; s < 4; s++) {
                Check.same("inbox of " + s, x.inbox(s, -1), s == from ? 0 : 1);
            }
            Check.same("for one that is not known", x.send(from, (from + 1) % 4, 6), 3);
            Check.same("for one that is nowhere", x.send(from, 7, 7), 3);
        }
    }

    private static void goesOutSentence() {
        Check.sentence("It GOES OUT on a port only if that is FORWARDING and has the VLAN");
    }

    private static void outOnAPortThatIsNotForwarding() {
        goesOutSentence();
        BridgeNet x = new BridgeNet();
        x.attach(0, 0, 1, 1);
        Check.same("free ports", x.send(0, 8, 1), 0);
        x.link(0, 0, 1, 0);
        Nets.drain(x, 1, 0);
        Nets.ticks(x, 3);
        Check.same("DISCARDING", x.send(0, 8, 1), 0);
        x.tick();
        Check.same("LEARNING", x.send(0, 8, 1), 0);
        Nets.ticks(x, 3);
        Check.same("LEARNING", x.send(0, 8, 1), 0);
        Nets.drain(x, 1, 0);
        Check.same("no frame came", x.line(1, 0), 0);
        x.tick();
        Nets.drain(x, 1, 0);
        Check.same("FORWARDING", x.send(0, 8, 1), 1);
        Check.same("one came", x.message(1, 0, 0), Nets.frame(8, 1));
    }

    private static void outOnAPortWithoutTheVlan() {
        goesOutSentence();
        for (int vlan = 1; vlan <= 2; vlan++) {
            BridgeNet x = Nets.pair();
            x.attach(0, 0, 1, vlan);
            x.attach(1, 0, 2, vlan);
            Nets.drain(x, 1, 0);
            x.set(0, 0, 10, 3 - vlan);
            Check.same("a link without it", x.send(0, 8, 1), 1);
            Check.same("line", x.line(1, 0), 0);
            x.set(0, 2, 10, 3 - vlan);
            Check.same("a station's port without it", x.send(0, 8, 1), 0);
            Check.same("inbox", x.inbox(1, -1), 1);
            x.set(0, 0, 10, vlan);
            x.set(0, 2, 10, 3);
            Check.same("both have it", x.send(0, 8, 1), 2);
        }
    }

    private static void intoAnInboxOfTheVlan() {
        Check.sentence("or into the INBOX of the station (if that is in this VLAN), which keeps the"
                + " first 40.");
        for (int vlan = 1; vlan <= 2; vlan++) {
            BridgeNet x = new BridgeNet();
            x.attach(0, 0, 0, vlan);
            x.attach(1, 0, 1, 1);
            x.attach(2, 0, 2, 2);
            x.send(0, 8, 1);
            Check.same("in VLAN 1", x.inbox(1, -1), vlan == 1 ? 1 : 0);
            Check.same("in VLAN 2", x.inbox(2, -1), vlan == 2 ? 1 : 0);
        }
    }

    private static void theInboxKeepsTheFirstForty() {
        Check.sentence("or into the INBOX of the station (if that is in this VLAN), which keeps the"
                + " first 40.");
        BridgeNet x = fourStations();
        for (int i = 0; i < 39; i++) {
            x.send(0, 1, i);
        }
        Check.same("39", x.inbox(1, -1), 39);
        Check.same("no fortieth yet", x.inbox(1, 39), -1);
        x.send(2, 8, 39);
        Check.same("40", x.inbox(1, -1), 40);
        Check.same("the fortieth", x.inbox(1, 39), Nets.kept(2, 8, 39));
        x.send(3, 8, 40);
        Check.same("still 40", x.inbox(1, -1), 40);
        Check.same("no more", x.inbox(1, 40), -1);
        Check.same("the fortieth stays", x.inbox(1, 39), Nets.kept(2, 8, 39));
        Check.same("the first stays", x.inbox(1, 0), Nets.kept(0, 1, 0));
        x.attach(1, 4, 0, 1);
        x.attach(4, 4, 1, 1);
        x.send(4, 8, 41);
        Check.same("still full elsewhere", x.inbox(1, -1), 40);
        Check.same("no more", x.inbox(1, 40), -1);
    }

    /** From bridge to bridge, on all ways at first and then on the one that was learned. */
    private static void onAndOn() {
        Check.sentence("");
        BridgeNet x = Nets.row();
        x.attach(0, 0, 0, 1);
        x.attach(1, 1, 2, 1);
        x.attach(2, 2, 1, 1);
        Nets.settle(x);
        x.send(0, 2, 40);
        x.deliver(1, 0);
        Check.same("not learned: to the station", x.inbox(1, 0), Nets.kept(0, 2, 40));
        Check.same("not learned: and on", x.message(2, 0, 0), Nets.frame(2, 1));
        x.deliver(2, 0);
        Check.same("arrived", x.inbox(2, 0), Nets.kept(0, 2, 40));
        x.send(2, 0, 41);
        Check.same("deliver", x.deliver(1, 1), Nets.FRAME);
        Check.same("learned: not to the station", x.inbox(1, -1), 1);
        Check.same("learned: on the one way", x.message(0, 1, 0), Nets.frame(0, 1));
        x.deliver(0, 1);
        Check.same("arrived", x.inbox(0, 0), Nets.kept(2, 0, 41));
    }
}
