/** Promise 14: learned. */
public final class LearnedTest {
    public static void main(String[] args) {
        wrongInputs();
        vlanByVlan();
        theLastPlaceCounts();
        whereItIsNotForwarding();
        Check.end();
    }

    private static void wrongInputs() {
        BridgeNet x = new BridgeNet();
        x.attach(0, 0, 0, 1);
        x.send(0, 8, 1);
        Check.same("learned", x.learned(0, 0, 1), 0);
        for (int b : Nets.NO_BRIDGES) {
            Check.same("no bridge", x.learned(b, 0, 1), -1);
        }
        for (int s : Nets.NO_STATIONS) {
            Check.same("no station", x.learned(0, s, 1), -1);
        }
        for (int vlan : Nets.NO_VLANS) {
            Check.same("no VLAN", x.learned(0, 0, vlan), -1);
        }
    }

    private static void vlanByVlan() {
        BridgeNet x = Nets.pair();
        x.attach(7, 1, 1, 1);
        x.send(7, 8, 1);
        x.attach(7, 1, 2, 2);
        x.send(7, 8, 1);
        Nets.settle(x);
        Check.same("VLAN 2 at its port", x.learned(1, 7, 2), 2);
        Check.same("VLAN 1 forgotten there", x.learned(1, 7, 1), -1);
        Check.same("VLAN 1 still known afar", x.learned(0, 7, 1), 0);
        Check.same("VLAN 2 known afar", x.learned(0, 7, 2), 0);
        Check.same("others are not", x.learned(0, 6, 1), -1);
    }

    private static void theLastPlaceCounts() {
        BridgeNet x = Nets.row();
        x.attach(0, 0, 0, 1);
        x.send(0, 8, 1);
        Nets.settle(x);
        Check.same("behind port 0", x.learned(1, 0, 1), 0);
        x.attach(0, 2, 3, 1);
        x.send(0, 8, 1);
        Nets.settle(x);
        Check.same("now behind port 1", x.learned(1, 0, 1), 1);
        Check.same("and behind the link at 0", x.learned(0, 0, 1), 1);
    }

    private static void whereItIsNotForwarding() {
        BridgeNet x = new BridgeNet();
        x.attach(0, 0, 0, 2);
        x.set(0, 0, 10, 1);
        x.send(0, 8, 1);
        Check.same("a port without the VLAN", x.learned(0, 0, 2), -1);
    }
}
