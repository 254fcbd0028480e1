/** Promise 15: inbox. */
public final class InboxTest {
    public static void main(String[] args) {
        wrongInputs();
        values();
        theFirstFortyAreKept();
        Check.end();
    }

    private static void wrongInputs() {
        BridgeNet x = new BridgeNet();
        for (int s : Nets.NO_STATIONS) {
            Check.same("no station", x.inbox(s, 0), -1);
            Check.same("no station's count", x.inbox(s, -1), -1);
        }
        x.attach(0, 0, 0, 1);
        x.attach(1, 0, 1, 1);
        x.send(1, 0, 3);
        for (int k : new int[] {1, -2, 39, 40, Integer.MIN_VALUE, Integer.MAX_VALUE}) {
            Check.same("value " + k, x.inbox(0, k), -1);
        }
        Check.same("count", x.inbox(0, -1), 1);
        Check.same("count of none", x.inbox(1, -1), 0);
        Check.same("none", x.inbox(1, 0), -1);
    }

    private static void values() {
        BridgeNet x = new BridgeNet();
        x.attach(0, 0, 0, 1);
        x.attach(7, 0, 1, 1);
        int[] sent = {0, 1, -1, Integer.MAX_VALUE, Integer.MIN_VALUE};
        for (int value : sent) {
            x.send(7, 8, value);
        }
        x.send(7, 6, 5);
        for (int k = 0; k < sent.length; k++) {
            long due = (sent[k] & 0xFFFFFFFFL) + (7L << 32) + (8L << 36);
            Check.same("value " + sent[k], x.inbox(0, k), due);
        }
        Check.same("for another", x.inbox(0, 5), 5 + (7L << 32) + (6L << 36));
        Check.same("count", x.inbox(0, -1), 6);
    }

    private static void theFirstFortyAreKept() {
        BridgeNet x = new BridgeNet();
        x.attach(0, 0, 0, 2);
        x.attach(1, 0, 1, 2);
        for (int i = 0; i < 42; i++) {
            x.send(0, 1, 100 + i);
            Check.same("count", x.inbox(1, -1), Math.min(i + 1, 40));
        }
        for (int k = 0; k < 40; k++) {
            Check.same("value", x.inbox(1, k), Nets.kept(0, 1, 100 + k));
        }
        Check.same("the 41st", x.inbox(1, 40), -1);
    }
}
