import java.util.function.Consumer;
import java.util.function.Predicate;

/** Every reason for which a call is refused or throws, each on a net in the midst of its work. */
public final class UnchangedTest {
    private static final Class<IndexOutOfBoundsException> NO_SUCH = IndexOutOfBoundsException.class;
    private static final Class<IllegalArgumentException> BAD = IllegalArgumentException.class;
    private static final Class<IllegalStateException> NOT_NOW = IllegalStateException.class;

    public static void main(String[] args) {
        Check.sentence("A call that is refused or throws changes nothing.");
        priority();
        set();
        link();
        cut();
        attach();
        send();
        deliver();
        lose();
        Check.sentence("");
        questions();
        Check.end();
    }

    private static void refused(String what, Predicate<BridgeNet> call) {
        Check.no(what, call.test(Twins.lively()));
        Twins.unchanged(what, x -> call.test(x));
    }

    private static void thrown(String what, Class<? extends RuntimeException> due,
            Consumer<BridgeNet> call) {
        BridgeNet x = Twins.lively();
        Check.thrown(what, due, () -> call.accept(x));
        Twins.unchanged(what, call);
    }

    private static void priority() {
        for (int b : Nets.NO_BRIDGES) {
            refused("priority of bridge " + b, x -> x.priority(b, 0));
        }
        for (int priority : Nets.NO_PRIORITIES) {
            refused("priority " + priority, x -> x.priority(4, priority));
        }
        for (int b = 0; b < 4; b++) {
            int bridge = b;
            refused("priority of a bridge in use", x -> x.priority(bridge, 0));
        }
    }

    private static void set() {
        for (int b : Nets.NO_BRIDGES) {
            refused("set on bridge " + b, x -> x.set(b, 0, 1, 1));
        }
        for (int p : Nets.NO_PORTS) {
            refused("set on port " + p, x -> x.set(1, p, 1, 1));
        }
        for (int cost : Nets.NO_COSTS) {
            refused("set of cost " + cost, x -> x.set(1, 0, cost, 1));
        }
        for (int vlans : Nets.NO_VLAN_SETS) {
            refused("set of VLANs " + vlans, x -> x.set(1, 0, 1, vlans));
        }
    }

    private static void link() {
        for (int b : Nets.NO_BRIDGES) {
            refused("link from bridge " + b, x -> x.link(b, 0, 4, 0));
            refused("link to bridge " + b, x -> x.link(4, 0, b, 0));
        }
        for (int p : Nets.NO_PORTS) {
            refused("link from port " + p, x -> x.link(4, p, 3, 1));
            refused("link to port " + p, x -> x.link(3, 1, 4, p));
        }
        refused("link from a linked port", x -> x.link(0, 0, 4, 0));
        refused("link to a linked port", x -> x.link(4, 0, 0, 0));
        refused("link from a station's port", x -> x.link(0, 2, 4, 0));
        refused("link to a station's port", x -> x.link(4, 0, 0, 2));
        refused("link that is there", x -> x.link(0, 0, 1, 0));
        refused("link that is there, turned", x -> x.link(1, 0, 0, 0));
        refused("link within a bridge", x -> x.link(3, 1, 3, 2));
        refused("link of a port with itself", x -> x.link(4, 1, 4, 1));
    }

    private static void cut() {
        for (int b : Nets.NO_BRIDGES) {
            refused("cut at bridge " + b, x -> x.cut(b, 0));
        }
        for (int p : Nets.NO_PORTS) {
            refused("cut at port " + p, x -> x.cut(0, p));
        }
        refused("cut of a free port", x -> x.cut(0, 3));
        refused("cut of a station's port", x -> x.cut(0, 2));
        refused("cut at an unused bridge", x -> x.cut(4, 0));
    }

    private static void attach() {
        for (int s : Nets.NO_STATIONS) {
            thrown("attach of station " + s, NO_SUCH, x -> x.attach(s, 4, 0, 1));
        }
        for (int b : Nets.NO_BRIDGES) {
            thrown("attach to bridge " + b, NO_SUCH, x -> x.attach(0, b, 0, 1));
        }
        for (int p : Nets.NO_PORTS) {
            thrown("attach to port " + p, NO_SUCH, x -> x.attach(0, 4, p, 1));
        }
        for (int vlan : Nets.NO_VLANS) {
            thrown("attach in VLAN " + vlan, BAD, x -> x.attach(0, 4, 0, vlan));
            thrown("attach of a new one in VLAN " + vlan, BAD, x -> x.attach(7, 4, 0, vlan));
        }
        thrown("attach to a linked port", NOT_NOW, x -> x.attach(0, 0, 0, 2));
        thrown("attach to another's port", NOT_NOW, x -> x.attach(0, 1, 2, 2));
        thrown("attach to its own port", NOT_NOW, x -> x.attach(0, 0, 2, 2));
        thrown("attach of a new one to a linked port", NOT_NOW, x -> x.attach(7, 2, 3, 1));
    }

    private static void send() {
        for (int s : Nets.NO_STATIONS) {
            thrown("send of station " + s, NO_SUCH, x -> x.send(s, 8, 1));
        }
        for (int s = 4; s < 8; s++) {
            int station = s;
            thrown("send from nowhere", NOT_NOW, x -> x.send(station, 8, 1));
        }
        for (int destination : Nets.NO_DESTINATIONS) {
            thrown("send to " + destination, BAD, x -> x.send(3, destination, 1));
        }
    }

    private static void deliver() {
        for (int b : Nets.NO_BRIDGES) {
            thrown("deliver at bridge " + b, NO_SUCH, x -> x.deliver(b, 0));
        }
        for (int p : Nets.NO_PORTS) {
            thrown("deliver at port " + p, NO_SUCH, x -> x.deliver(1, p));
        }
        Twins.unchanged("deliver of an empty line", x -> x.deliver(0, 0));
        Twins.unchanged("deliver at a station's port", x -> x.deliver(0, 2));
        Twins.unchanged("deliver at a free port", x -> x.deliver(0, 3));
    }

    private static void lose() {
        for (int b : Nets.NO_BRIDGES) {
            refused("lose at bridge " + b, x -> x.lose(b, 0));
        }
        for (int p : Nets.NO_PORTS) {
            refused("lose at port " + p, x -> x.lose(1, p));
        }
        refused("lose of an empty line", x -> x.lose(0, 0));
        refused("lose at a station's port", x -> x.lose(0, 2));
        refused("lose at a free port", x -> x.lose(0, 3));
    }

    private static void questions() {
        for (int b = -1; b <= 5; b++) {
            int bridge = b;
            Twins.unchanged("root", x -> x.root(bridge));
            for (int p = -1; p <= 4; p++) {
                int port = p;
                Twins.unchanged("port", x -> x.port(bridge, port));
                Twins.unchanged("info", x -> x.info(bridge, port));
                Twins.unchanged("line", x -> x.line(bridge, port));
                Twins.unchanged("message", x -> x.message(bridge, port, port));
            }
        }
        for (int s = -1; s <= 8; s++) {
            int station = s;
            Twins.unchanged("learned", x -> x.learned(station / 2, station, station % 4));
            Twins.unchanged("inbox", x -> x.inbox(station, 0));
            Twins.unchanged("inbox", x -> x.inbox(station, -1));
        }
    }
}
