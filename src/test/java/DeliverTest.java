/** Promise 8: deliver. What each message does stands in TellTest, AgreeTest and FrameTest. */
public final class DeliverTest {
    public static void main(String[] args) {
        noSuchPort();
        none();
        answersAndOrder();
        Check.end();
    }

    private static void noSuchPort() {
        Check.sentence("IndexOutOfBoundsException when there is no such port.");
        BridgeNet x = Nets.pair();
        Nets.ticks(x, 2);
        for (int b : Nets.NO_BRIDGES) {
            Check.thrown("bridge " + b, IndexOutOfBoundsException.class, () -> x.deliver(b, 0));
        }
        for (int p : Nets.NO_PORTS) {
            Check.thrown("port " + p, IndexOutOfBoundsException.class, () -> x.deliver(1, p));
        }
        Check.same("the line is as it was", x.line(1, 0), 1);
        for (int b = 0; b < 5; b += 4) {
            for (int p = 0; p < 4; p += 3) {
                Check.same("the first and the last", new BridgeNet().deliver(b, p), 0);
            }
        }
    }

    private static void none() {
        Check.sentence("1 TELL, 2 AGREE, 3 a frame; 0 when there is none.");
        BridgeNet x = Nets.pair();
        x.attach(0, 0, 1, 1);
        Check.same("free port", x.deliver(0, 3), 0);
        Check.same("station's port", x.deliver(0, 1), 0);
        Check.same("empty line", x.deliver(0, 0), 0);
        Check.same("the last one", x.deliver(1, 0), Nets.TELL);
        Check.same("empty now", x.deliver(1, 0), 0);
        Check.same("and still", x.deliver(1, 0), 0);
        Check.same("line", x.line(1, 0), 0);
        Nets.ticks(x, 2);
        Check.same("one more", x.line(1, 0), 1);
        x.cut(0, 0);
        Check.same("a line that went with its link", x.deliver(1, 0), 0);
    }

    private static void answersAndOrder() {
        Check.sentence("The first message in the line of port p of bridge b comes");
        BridgeNet x = new BridgeNet();
        x.link(0, 0, 1, 0);
        x.attach(0, 1, 1, 1);
        Check.same("TELL", x.deliver(1, 0), Nets.TELL);
        Check.same("a frame on the root port", x.send(0, 8, 1), 1);
        Check.same("line", x.line(0, 0), 4);
        Check.same("TELL", x.deliver(0, 0), Nets.TELL);
        Check.same("TELL of the station's port", x.deliver(0, 0), Nets.TELL);
        Check.same("AGREE", x.deliver(0, 0), Nets.AGREE);
        Check.same("frame", x.deliver(0, 0), Nets.FRAME);
        Check.same("none", x.deliver(0, 0), 0);
    }
}
