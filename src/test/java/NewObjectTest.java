/** Promise 1: a new object. */
public final class NewObjectTest {
    private static final Due DUE = new Due();

    public static void main(String[] args) {
        for (int n = -1; n <= 7; n++) {
            sizes(n, 2, 32, n >= 1 && n <= 5 ? n : 3, 2, 32);
        }
        for (int slots = -1; slots <= 6; slots++) {
            sizes(3, slots, 32, 3, slots >= 1 && slots <= 4 ? slots : 2, 32);
        }
        for (int places = -1; places <= 70; places++) {
            sizes(3, 2, places, 3, 2, places >= 5 && places <= 64 ? places : 32);
        }
        int least = Integer.MIN_VALUE;
        int greatest = Integer.MAX_VALUE;
        sizes(least, least, least, 3, 2, 32);
        sizes(greatest, greatest, greatest, 3, 2, 32);
        sizes(5, 4, 64, 5, 4, 64);
        sizes(1, 1, 5, 1, 1, 5);
        constants();
        DUE.end();
    }

    private static void sizes(int n, int slots, int places, int wantN, int wantS, int wantC) {
        DecreePool x = new DecreePool(n, slots, places);
        String of = "new DecreePool(" + n + ", " + slots + ", " + places + ") ";
        DUE.is(of + "count(1)", x.count(1), wantN);
        DUE.is(of + "count(2)", x.count(2), wantS);
        DUE.is(of + "count(3)", x.count(3), wantC);
        DUE.is(of + "count(6)", x.count(6), (1 << wantN) - 1);
        DUE.is(of + "count(0)", x.count(0), 0);
        DUE.is(of + "count(4)", x.count(4), 0);
        DUE.is(of + "count(5)", x.count(5), 0);
        for (int m = 0; m < wantC; m++) {
            DUE.is(of + "message(" + m + ", 0)", x.message(m, 0), -1);
        }
        for (int slot = 0; slot < wantS; slot++) {
            DUE.is(of + "chosen(" + slot + ")", x.chosen(slot), 0);
            for (int node = 0; node < wantN; node++) {
                parts(of, x, node, slot);
            }
        }
    }

    private static void parts(String of, DecreePool x, int node, int slot) {
        String at = "(" + node + ", " + slot;
        int[] acceptor = {-1, -1, 0};
        for (int what = 0; what < 3; what++) {
            DUE.is(of + "acceptor" + at + ", " + what + ")", x.acceptor(node, slot, what),
                    acceptor[what]);
        }
        int[] proposer = {0, -1, 0, -1, 0};
        for (int what = 0; what < 5; what++) {
            DUE.is(of + "proposer" + at + ", " + what + ")", x.proposer(node, slot, what),
                    proposer[what]);
        }
        DUE.is(of + "learned" + at + ")", x.learned(node, slot), 0);
        DUE.is(of + "heard" + at + ", 0)", x.heard(node, slot, 0), -1);
        DUE.is(of + "prefix(" + node + ")", x.prefix(node), 0);
        DUE.is(of + "applied(" + node + ")", x.applied(node), 0);
    }

    private static void constants() {
        DUE.is("NONE", DecreePool.NONE, -1);
        DUE.is("DOWN", DecreePool.DOWN, -2);
        DUE.is("OLD", DecreePool.OLD, -3);
        DUE.is("FULL", DecreePool.FULL, -4);
    }
}
