/** The limits in the first paragraph of "Terms", at the last value within and the first beyond. */
public final class LimitsTest {
    public static void main(String[] args) {
        bridgesAndPorts();
        noPortLiesInAnothersPlace();
        prioritiesAndIds();
        costsAndVlans();
        freeLinkedOrWithAStation();
        stationsAreInOneVlan();
        emptyLine();
        frameAsTheTwelfthAndOneMore();
        tellAsTheTwelfthAndOneMore();
        agreementAsTheTwelfthAndOneMore();
        aLostMessageNeverComes();
        theRingOfALineWrapsAround();
        Check.end();
    }

    private static void bridgesAndPorts() {
        Check.sentence("BRIDGES 0 .. 4 with PORTS 0 .. 3.");
        for (int b = -1; b <= 5; b++) {
            for (int p = -1; p <= 4; p++) {
                boolean there = b >= 0 && b <= 4 && p >= 0 && p <= 3;
                String at = " at " + b + ", " + p;
                BridgeNet x = new BridgeNet();
                Check.same("port" + at, x.port(b, p), there ? 0 : -1);
                Check.same("line" + at, x.line(b, p), there ? 0 : -1);
                Check.same("set" + at, x.set(b, p, 9, 2) ? 1 : 0, there ? 1 : 0);
                int c = b == 4 ? 3 : 4;
                Check.same("link" + at, x.link(b, p, c, 0) ? 1 : 0, there ? 1 : 0);
                Check.same("message" + at, x.message(b, p, 0), there ? Nets.tell(64 + c) : 0);
                Check.same("lose" + at, x.lose(b, p) ? 1 : 0, there ? 1 : 0);
                Check.same("cut" + at, x.cut(b, p) ? 1 : 0, there ? 1 : 0);
            }
        }
    }

    /** A port beyond the last must not be taken for the next bridge's first, nor the other way. */
    private static void noPortLiesInAnothersPlace() {
        Check.sentence("BRIDGES 0 .. 4 with PORTS 0 .. 3.");
        BridgeNet x = new BridgeNet();
        for (int b = 0; b < 4; b++) {
            Check.yes("link", x.link(b, 3, b + 1, 0));
        }
        for (int b = 0; b < 5; b++) {
            x.deliver(b, 0);
            x.deliver(b, 3);
        }
        for (int b = 0; b < 5; b++) {
            for (int p : new int[] {-1, 4}) {
                Check.same("port", x.port(b, p), -1);
                Check.same("info", x.info(b, p), -1);
                Check.same("line", x.line(b, p), -1);
                Check.same("message", x.message(b, p, 0), 0);
                Check.no("lose", x.lose(b, p));
                Check.no("cut", x.cut(b, p));
            }
        }
    }

    private static void prioritiesAndIds() {
        Check.sentence("A bridge has a PRIORITY 0 .. 15 and an ID, 8 times the priority plus its number");
        for (int b = 0; b < 5; b++) {
            BridgeNet x = new BridgeNet();
            Check.no("priority -1", x.priority(b, -1));
            Check.no("priority 16", x.priority(b, 16));
            Check.same("as before", x.root(b), 64 + b);
            Check.yes("priority 0", x.priority(b, 0));
            Check.same("the least ID", x.root(b), b);
            Check.yes("priority 15", x.priority(b, 15));
            Check.same("the greatest ID", x.root(b), 120 + b);
        }
    }

    private static void costsAndVlans() {
        Check.sentence("a port has a COST 1 .. 50 and a set of VLANs out of 1 and 2.");
        BridgeNet x = Nets.pair();
        Check.no("cost 0", x.set(1, 0, 0, 3));
        Check.no("cost 51", x.set(1, 0, 51, 3));
        Check.same("as before", x.root(1), Nets.root(64, 10, 1));
        Check.yes("cost 1", x.set(1, 0, 1, 3));
        Check.same("the least cost", x.root(1), Nets.root(64, 1, 1));
        Check.yes("cost 50", x.set(1, 0, 50, 3));
        Check.same("the greatest cost", x.root(1), Nets.root(64, 50, 1));
        Check.no("no VLAN", x.set(1, 0, 50, 0));
        Check.no("a third VLAN", x.set(1, 0, 50, 4));
        Check.yes("VLAN 1", x.set(1, 0, 50, 1));
        Check.yes("both VLANs", x.set(1, 0, 50, 3));
    }

    private static void freeLinkedOrWithAStation() {
        Check.sentence("A port is FREE, has a LINK to a port of another bridge, or has a STATION 0 .. 7");
        BridgeNet x = new BridgeNet();
        Check.no("a link to the same bridge", x.link(2, 0, 2, 1));
        Check.yes("a link", x.link(2, 0, 1, 0));
        Check.thrown("linked, so no station", IllegalStateException.class, () -> x.attach(0, 2, 0, 1));
        Check.no("linked, so no second link", x.link(2, 0, 3, 0));
        Check.thrown("station -1", IndexOutOfBoundsException.class, () -> x.attach(-1, 2, 1, 1));
        Check.thrown("station 8", IndexOutOfBoundsException.class, () -> x.attach(8, 2, 1, 1));
        x.attach(0, 2, 1, 1);
        Check.no("a station's, so no link", x.link(2, 1, 1, 1));
        Check.thrown("no second station", IllegalStateException.class, () -> x.attach(7, 2, 1, 1));
        x.attach(7, 2, 2, 1);
        Check.same("station 0", x.port(2, 1), Nets.STATION_PORT);
        Check.same("station 7", x.port(2, 2), Nets.STATION_PORT);
        Check.same("free", x.port(2, 3), Nets.FREE);
    }

    private static void stationsAreInOneVlan() {
        Check.sentence("or has a STATION 0 .. 7, which is in one VLAN.");
        for (int vlan = 1; vlan <= 2; vlan++) {
            BridgeNet x = new BridgeNet();
            x.attach(0, 0, 0, vlan);
            x.attach(1, 0, 1, 1);
            x.attach(2, 0, 2, 2);
            x.send(0, 8, 1);
            Check.same("learned in 1", x.learned(0, 0, 1), vlan == 1 ? 0 : -1);
            Check.same("learned in 2", x.learned(0, 0, 2), vlan == 2 ? 0 : -1);
            Check.same("comes to the one in 1", x.inbox(1, -1), vlan == 1 ? 1 : 0);
            Check.same("comes to the one in 2", x.inbox(2, -1), vlan == 2 ? 1 : 0);
        }
    }

    private static void lineSentence() {
        Check.sentence("Each linked port has a LINE of messages that come to it, at most 12"
                + " (one more is lost).");
    }

    private static void emptyLine() {
        lineSentence();
        BridgeNet x = Nets.pair();
        Check.same("line", x.line(1, 0), 0);
        Check.same("deliver", x.deliver(1, 0), 0);
        Check.no("lose", x.lose(1, 0));
        Check.same("message", x.message(1, 0, 0), 0);
        Check.same("line", x.line(1, 0), 0);
        x.attach(0, 0, 1, 1);
        Check.same("one comes", x.line(1, 0), 1);
        Check.same("it is the first", x.message(1, 0, 0), Nets.tell(64));
    }

    /** A pair whose line at port 0 of bridge 1 holds so many frames for station 3, and no more. */
    private static BridgeNet withFrames(int n) {
        BridgeNet x = Nets.pair();
        x.attach(0, 0, 1, 1);
        Nets.drain(x, 1, 0);
        for (int i = 0; i < n; i++) {
            x.send(0, 3, i);
        }
        Check.same("frames in the line", x.line(1, 0), n);
        return x;
    }

    private static void frameAsTheTwelfthAndOneMore() {
        lineSentence();
        BridgeNet x = withFrames(11);
        Check.same("the twelfth goes out", x.send(0, 4, 11), 1);
        Check.same("twelve", x.line(1, 0), 12);
        Check.same("the twelfth", x.message(1, 0, 11), Nets.frame(4, 1));
        x.send(0, 5, 12);
        Check.same("still twelve", x.line(1, 0), 12);
        Check.same("the first stays", x.message(1, 0, 0), Nets.frame(3, 1));
        Check.same("the twelfth stays", x.message(1, 0, 11), Nets.frame(4, 1));
        Check.same("no thirteenth", x.message(1, 0, 12), 0);
    }

    private static void tellAsTheTwelfthAndOneMore() {
        lineSentence();
        BridgeNet x = withFrames(11);
        x.attach(1, 0, 2, 1);
        Check.same("twelve", x.line(1, 0), 12);
        Check.same("the twelfth", x.message(1, 0, 11), Nets.tell(64));
        BridgeNet y = withFrames(12);
        y.attach(1, 0, 2, 1);
        Check.same("still twelve", y.line(1, 0), 12);
        for (int k = 0; k < 12; k++) {
            Check.same("frames", y.message(1, 0, k), Nets.frame(3, 1));
        }
    }

    /** Bridge 1 holds a proposal; its answer is put behind so many messages in bridge 0's line. */
    private static BridgeNet withProposal(int n) {
        BridgeNet x = new BridgeNet();
        x.link(0, 0, 1, 0);
        x.deliver(1, 0);
        x.attach(0, 1, 1, 1);
        Nets.drain(x, 0, 0);
        Nets.ticks(x, 2);
        for (int i = 0; i < n; i++) {
            x.send(0, 3, i);
        }
        Check.same("messages in the line", x.line(0, 0), n);
        Check.same("a proposal in the other", x.line(1, 0), 1);
        return x;
    }

    private static void agreementAsTheTwelfthAndOneMore() {
        lineSentence();
        BridgeNet x = withProposal(11);
        Check.same("deliver", x.deliver(1, 0), Nets.TELL);
        Check.same("twelve", x.line(0, 0), 12);
        Check.same("the twelfth", x.message(0, 0, 11), Nets.agree(64));
        BridgeNet y = withProposal(12);
        Check.same("deliver", y.deliver(1, 0), Nets.TELL);
        Check.same("still twelve", y.line(0, 0), 12);
        Check.same("the twelfth stays", y.message(0, 0, 11), Nets.frame(3, 1));
        Nets.drain(y, 0, 0);
        Check.same("no agreement has come", y.port(0, 0), Nets.proposing(Nets.DISCARDING, 2));
    }

    private static void aLostMessageNeverComes() {
        lineSentence();
        BridgeNet x = withFrames(12);
        x.send(0, 4, 100);
        Check.yes("room for one", x.lose(1, 0));
        Check.same("eleven", x.line(1, 0), 11);
        x.send(0, 5, 101);
        Check.same("twelve", x.line(1, 0), 12);
        Check.same("the new one is the last", x.message(1, 0, 11), Nets.frame(5, 1));
        Check.same("the lost one is not there", x.message(1, 0, 10), Nets.frame(3, 1));
    }

    /** However many have come and gone before, twelve find room and keep their order. */
    private static void theRingOfALineWrapsAround() {
        lineSentence();
        for (int gone = 0; gone <= 13; gone++) {
            BridgeNet x = withFrames(0);
            for (int i = 0; i < gone; i++) {
                x.send(0, 3, i);
                Check.yes("lose", x.lose(1, 0));
            }
            for (int i = 0; i < 13; i++) {
                x.send(0, 1 + i % 7, i);
            }
            Check.same("twelve after " + gone, x.line(1, 0), 12);
            for (int k = 0; k < 12; k++) {
                Check.same("message " + k + " after " + gone, x.message(1, 0, k),
                        Nets.frame(1 + k % 7, 1));
            }
            x.attach(1, 1, 1, 1);
            for (int k = 0; k < 12; k++) {
                Check.same("deliver after " + gone, x.deliver(1, 0), Nets.FRAME);
                Check.same("message 0 after " + gone, x.message(1, 0, 0),
                        k == 11 ? 0 : Nets.frame(1 + (k + 1) % 7, 1));
            }
        }
    }
}
