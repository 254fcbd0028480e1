/** Promise 15: inbox. */
public final class InboxTest {
    private static final String ANSWER = "Value k, from 0, in the inbox of station s, plus 2^32 times"
            + " the source, plus 2^36 times the destination (value as an int from 0 to 2^32 - 1)";
    private static final String COUNT = "how many there are for k = -1; -1 when there is none.";

    public static void main(String[] args) {
        noSuchStation();
        empty();
        noSuchValue();
        full();
        valuesOfAllSigns();
        sourcesAndDestinations();
        Check.end();
    }

    private static void noSuchStation() {
        Check.sentence(COUNT);
        BridgeNet x = new BridgeNet();
        for (int s : Nets.NO_STATIONS) {
            Check.same("station " + s, x.inbox(s, 0), -1);
            Check.same("count of station " + s, x.inbox(s, -1), -1);
        }
        Check.same("the first", x.inbox(0, -1), 0);
        Check.same("the last", x.inbox(7, -1), 0);
    }

    private static void empty() {
        Check.sentence(COUNT);
        BridgeNet x = new BridgeNet();
        Check.same("count, nowhere", x.inbox(3, -1), 0);
        x.attach(3, 0, 0, 1);
        Check.same("count", x.inbox(3, -1), 0);
        for (int k : new int[] {0, 1, 39, 40, -2, Integer.MIN_VALUE, Integer.MAX_VALUE}) {
            Check.same("value " + k, x.inbox(3, k), -1);
        }
    }

    private static void noSuchValue() {
        Check.sentence(COUNT);
        BridgeNet x = new BridgeNet();
        x.attach(0, 0, 0, 1);
        x.attach(1, 0, 1, 1);
        for (int n = 1; n <= 3; n++) {
            x.send(1, 0, n);
            Check.same("count", x.inbox(0, -1), n);
            Check.same("the last", x.inbox(0, n - 1), Nets.kept(1, 0, n));
            for (int k : new int[] {n, -2, 39, 40, Integer.MIN_VALUE, Integer.MAX_VALUE}) {
                Check.same("value " + k, x.inbox(0, k), -1);
            }
        }
    }

    private static void full() {
        Check.sentence(COUNT);
        BridgeNet x = new BridgeNet();
        x.attach(0, 0, 0, 2);
        x.attach(1, 0, 1, 2);
        for (int i = 0; i < 42; i++) {
            x.send(0, 1, 100 + i);
            Check.same("count", x.inbox(1, -1), Math.min(i + 1, 40));
        }
        for (int k = 0; k < 40; k++) {
            Check.same("value " + k, x.inbox(1, k), Nets.kept(0, 1, 100 + k));
        }
        for (int k : new int[] {40, 41, -2, Integer.MIN_VALUE, Integer.MAX_VALUE}) {
            Check.same("value " + k, x.inbox(1, k), -1);
        }
    }

    private static void valuesOfAllSigns() {
        Check.sentence(ANSWER);
        BridgeNet x = new BridgeNet();
        x.attach(0, 0, 0, 1);
        x.attach(1, 0, 1, 1);
        int[] sent = {0, 1, Integer.MAX_VALUE, Integer.MIN_VALUE, -2, -1};
        long[] due = {0, 1, 2147483647L, 2147483648L, 4294967294L, 4294967295L};
        for (int k = 0; k < sent.length; k++) {
            x.send(0, 0, sent[k]);
            x.send(1, 0, sent[k]);
            Check.same("value " + sent[k], x.inbox(0, k), due[k] + 4294967296L);
        }
    }

    private static void sourcesAndDestinations() {
        Check.sentence(ANSWER);
        BridgeNet x = new BridgeNet();
        x.attach(0, 0, 0, 1);
        x.attach(7, 0, 1, 1);
        x.send(0, 7, -1);
        Check.same("source 0, destination 7", x.inbox(7, 0), 4294967295L + 7 * 68719476736L);
        x.send(7, 8, 0);
        Check.same("source 7, for all", x.inbox(0, 0), 7 * 4294967296L + 8 * 68719476736L);
        x.send(7, 0, 5);
        Check.same("source 7, destination 0", x.inbox(0, 1), 5 + 7 * 4294967296L);
        x.send(7, 6, 5);
        Check.same("for another", x.inbox(0, 2), 5 + 7 * 4294967296L + 6 * 68719476736L);
    }
}
