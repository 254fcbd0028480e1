/** Promise 12: root. */
public final class RootTest {
    public static void main(String[] args) {
        BridgeNet x = new BridgeNet();
        for (int b : Nets.NO_BRIDGES) {
            Check.same("no bridge", x.root(b), -1);
        }
        costsAndHopsAddUp();
        greatestNumbers();
        Check.end();
    }

    private static void costsAndHopsAddUp() {
        BridgeNet x = new BridgeNet();
        for (int b = 0; b < 4; b++) {
            x.link(b, 1, b + 1, 0);
            x.set(b + 1, 0, 47 + b, 3);
        }
        Nets.settle(x);
        int cost = 0;
        for (int b = 1; b < 5; b++) {
            cost += 46 + b;
            Check.same("root of " + b, x.root(b), 64 + 256L * cost + 65536L * 256 * b);
        }
        Check.same("root of the root", x.root(0), 64);
    }

    private static void greatestNumbers() {
        BridgeNet x = new BridgeNet();
        for (int b = 0; b < 5; b++) {
            x.priority(b, b == 4 ? 14 : 15);
        }
        for (int b = 0; b < 4; b++) {
            x.link(b, 1, b + 1, 0);
            x.set(b, 1, 50, 3);
        }
        Nets.settle(x);
        Check.same("root of the farthest", x.root(0), 116 + 256L * 200 + 65536L * 256 * 4);
    }
}
