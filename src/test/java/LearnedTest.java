/** Promise 14: learned. */
public final class LearnedTest {
    private static final String ANSWER = "The port behind which b has learned station s in a VLAN";
    private static final String NONE = "-1 when it has not.";

    public static void main(String[] args) {
        noSuchBridgeStationOrVlan();
        notLearned();
        notAnyMore();
        vlanByVlan();
        theLastPlaceCounts();
        Check.end();
    }

    /** With all that can be learned learned, so that no wrong input can be taken for a right one. */
    private static void noSuchBridgeStationOrVlan() {
        Check.sentence(NONE);
        BridgeNet x = Nets.pair();
        for (int s = 0; s < 8; s++) {
            for (int vlan = 1; vlan <= 2; vlan++) {
                x.attach(s, 1, vlan, vlan);
                x.send(s, 8, 1);
                x.attach(s, 2, vlan, vlan);
            }
            x.attach(s, 3 + s / 4, s % 4, 1);
            x.deliver(0, 0);
            x.deliver(0, 0);
        }
        for (int s = 0; s < 8; s++) {
            Check.same("station " + s + " in VLAN 1", x.learned(0, s, 1), 0);
            Check.same("station " + s + " in VLAN 2", x.learned(0, s, 2), 0);
        }
        for (int other = 0; other < 8; other++) {
            for (int b : Nets.NO_BRIDGES) {
                Check.same("bridge " + b, x.learned(b, other, 1), -1);
            }
            for (int vlan : Nets.NO_VLANS) {
                Check.same("VLAN " + vlan, x.learned(0, other, vlan), -1);
            }
        }
        for (int s : Nets.NO_STATIONS) {
            Check.same("station " + s, x.learned(0, s, 1), -1);
            Check.same("station " + s, x.learned(0, s, 2), -1);
            Check.same("station " + s, x.learned(0, s, 3), -1);
            Check.same("station " + s, x.learned(1, s, 0), -1);
        }
        x.send(7, 8, 1);
        Check.same("the last bridge", x.learned(4, 7, 1), 3);
    }

    private static void notLearned() {
        Check.sentence(NONE);
        BridgeNet x = new BridgeNet();
        x.attach(0, 0, 0, 2);
        Check.same("it has sent nothing", x.learned(0, 0, 2), -1);
        x.set(0, 0, 10, 1);
        x.send(0, 8, 1);
        Check.same("a port without the VLAN", x.learned(0, 0, 2), -1);
        x.set(0, 0, 10, 2);
        x.send(0, 8, 1);
        Check.same("learned", x.learned(0, 0, 2), 0);
        Check.same("not in the other VLAN", x.learned(0, 0, 1), -1);
        Check.same("not by another bridge", x.learned(1, 0, 2), -1);
        Check.same("not another station", x.learned(0, 1, 2), -1);
    }

    private static void notAnyMore() {
        Check.sentence(NONE);
        BridgeNet x = new BridgeNet();
        x.attach(0, 0, 2, 1);
        x.send(0, 9, 1);
        Nets.ticks(x, 11);
        Check.same("after 11 ticks", x.learned(0, 0, 1), 2);
        x.tick();
        Check.same("after 12 ticks", x.learned(0, 0, 1), -1);
        x.send(0, 9, 1);
        x.attach(0, 0, 3, 1);
        Check.same("after it has gone", x.learned(0, 0, 1), -1);
    }

    private static void vlanByVlan() {
        Check.sentence(ANSWER);
        BridgeNet x = Nets.pair();
        x.attach(7, 1, 1, 1);
        x.send(7, 8, 1);
        x.attach(7, 1, 2, 2);
        x.send(7, 8, 1);
        Nets.settle(x);
        Check.same("VLAN 2 at its port", x.learned(1, 7, 2), 2);
        Check.same("VLAN 1 forgotten there", x.learned(1, 7, 1), -1);
        Check.same("VLAN 1 still known afar", x.learned(0, 7, 1), 0);
        Check.same("VLAN 2 known afar", x.learned(0, 7, 2), 0);
        Check.same("others are not", x.learned(0, 6, 1), -1);
    }

    private static void theLastPlaceCounts() {
        Check.sentence(ANSWER);
        BridgeNet x = Nets.row();
        x.attach(0, 0, 0, 1);
        x.send(0, 8, 1);
        Nets.settle(x);
        Check.same("behind port 0", x.learned(1, 0, 1), 0);
        x.attach(0, 2, 3, 1);
        x.send(0, 8, 1);
        Nets.settle(x);
        Check.same("now behind port 1", x.learned(1, 0, 1), 1);
        Check.same("and behind the link at 0", x.learned(0, 0, 1), 1);
    }
}
