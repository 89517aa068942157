/** Promise 12: proposer. */
public final class ProposerTest {
    private static final Due DUE = new Due();

    public static void main(String[] args) {
        DecreePool x = new DecreePool(3, 2, 32);
        state(x, 1, 1, 0, -1, 0, -1, 0);
        x.prepare(1, 1, 2, 6);
        state(x, 1, 1, 1, 7, 0, -1, 0);
        state(x, 1, 0, 0, -1, 0, -1, 0);
        state(x, 0, 1, 0, -1, 0, -1, 0);
        x.sweep(2);
        state(x, 1, 1, 1, 7, 1, -1, 0);
        x.sweep(100);
        state(x, 1, 1, 2, 7, 2, -1, 6);
        x.prepare(0, 1, 3, 9);
        x.deliver(0);
        x.deliver(0);
        state(x, 0, 1, 1, 9, 1, 7, 0);
        x.sweep(100);
        state(x, 0, 1, 2, 9, 2, 7, 6);
        state(x, 1, 1, 2, 7, 2, -1, 6);
        x.crash(0);
        state(x, 0, 1, 2, 9, 2, 7, 6);
        x.restart(0);
        state(x, 0, 1, 0, 9, 0, -1, 0);
        wrongInputs(x);
        DUE.end();
    }

    private static void state(DecreePool x, int node, int slot, int... want) {
        for (int what = 0; what < 5; what++) {
            DUE.is("proposer(" + node + ", " + slot + ", " + what + ")",
                    x.proposer(node, slot, what), want[what]);
        }
    }

    private static void wrongInputs(DecreePool x) {
        int[][] wrong = {{-1, 0, 0}, {3, 0, 0}, {0, -1, 0}, {0, 2, 0}, {0, 0, -1}, {0, 0, 5},
            {Integer.MIN_VALUE, 0, 0}, {Integer.MAX_VALUE, 0, 0},
            {0, Integer.MIN_VALUE, 0}, {0, Integer.MAX_VALUE, 0},
            {0, 0, Integer.MIN_VALUE}, {0, 0, Integer.MAX_VALUE}};
        for (int[] w : wrong) {
            DUE.is("proposer" + java.util.Arrays.toString(w), x.proposer(w[0], w[1], w[2]), -1);
        }
    }
}
