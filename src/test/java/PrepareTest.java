/** Promise 2: prepare. */
public final class PrepareTest {
    private static final Due DUE = new Due();

    public static void main(String[] args) {
        ballots();
        messages();
        wrongInputs();
        orderOfRefusals();
        refusedChangesNothing();
        againForgetsPromises();
        fullAtTheEdge();
        DUE.end();
    }

    private static void ballots() {
        DecreePool x = new DecreePool(4, 2, 64);
        DUE.is("prepare(0, 0, 0, 1)", x.prepare(0, 0, 0, 1), 0);
        DUE.is("prepare(3, 0, 0, 1)", x.prepare(3, 0, 0, 1), 3);
        DUE.is("prepare(2, 1, 7, 1)", x.prepare(2, 1, 7, 1), 30);
        DUE.is("prepare(3, 1, 1000, max)", x.prepare(3, 1, 1000, Integer.MAX_VALUE), 4003);
        DUE.is("prepare(3, 0, 1, 1), the slots apart", x.prepare(3, 0, 1, 1), 7);
        DUE.is("proposer(3, 0, 1)", x.proposer(3, 0, 1), 7);
        DUE.is("proposer(3, 1, 1)", x.proposer(3, 1, 1), 4003);
        DUE.is("proposer(1, 0, 1)", x.proposer(1, 0, 1), -1);
    }

    private static void messages() {
        DecreePool x = new DecreePool(3, 2, 8);
        x.prepare(2, 1, 4, 9);
        DUE.is("count(0)", x.count(0), 3);
        for (int m = 0; m < 3; m++) {
            int[] want = {1, 2, m, 1, 14, 0, -1};
            for (int what = 0; what < 7; what++) {
                DUE.is("message(" + m + ", " + what + ")", x.message(m, what), want[what]);
            }
        }
        x.drop(1);
        x.prepare(0, 0, 0, 5);
        DUE.is("message(1, 2): the least empty place first", x.message(1, 2), 0);
        DUE.is("message(3, 2)", x.message(3, 2), 1);
        DUE.is("message(4, 2)", x.message(4, 2), 2);
        DUE.is("message(5, 0)", x.message(5, 0), -1);
    }

    private static void wrongInputs() {
        DecreePool x = new DecreePool(3, 2, 8);
        int[][] wrong = {
            {-1, 0, 0, 1}, {3, 0, 0, 1}, {0, -1, 0, 1}, {0, 2, 0, 1}, {0, 0, -1, 1},
            {0, 0, 1001, 1}, {0, 0, 0, 0}, {0, 0, 0, -1},
            {Integer.MIN_VALUE, 0, 0, 1}, {Integer.MAX_VALUE, 0, 0, 1},
            {0, Integer.MIN_VALUE, 0, 1}, {0, Integer.MAX_VALUE, 0, 1},
            {0, 0, Integer.MIN_VALUE, 1}, {0, 0, Integer.MAX_VALUE, 1},
            {0, 0, 0, Integer.MIN_VALUE},
        };
        for (int[] w : wrong) {
            DUE.is("prepare" + java.util.Arrays.toString(w), x.prepare(w[0], w[1], w[2], w[3]), -1);
        }
        DUE.is("count(0)", x.count(0), 0);
        DUE.is("proposer(0, 0, 0)", x.proposer(0, 0, 0), 0);
        DUE.is("proposer(0, 0, 1)", x.proposer(0, 0, 1), -1);
    }

    private static void orderOfRefusals() {
        DecreePool x = new DecreePool(3, 1, 5);
        x.prepare(0, 0, 1, 6);
        DUE.is("OLD before FULL", x.prepare(0, 0, 1, 6), DecreePool.OLD);
        DUE.is("OLD for a lesser round", x.prepare(0, 0, 0, 6), DecreePool.OLD);
        DUE.is("FULL", x.prepare(0, 0, 2, 6), DecreePool.FULL);
        x.crash(0);
        DUE.is("DOWN before OLD", x.prepare(0, 0, 1, 6), DecreePool.DOWN);
        DUE.is("DOWN before FULL", x.prepare(0, 0, 2, 6), DecreePool.DOWN);
        DUE.is("NONE before DOWN", x.prepare(0, 0, 2, 0), DecreePool.NONE);
        x.restart(0);
        DUE.is("OLD after a crash, too", x.prepare(0, 0, 1, 6), DecreePool.OLD);
    }

    private static void refusedChangesNothing() {
        DecreePool x = new DecreePool(3, 1, 5);
        x.prepare(0, 0, 1, 6);
        x.deliver(0);
        x.deliver(0);
        x.deliver(1);
        x.duplicate(0);
        DUE.is("count(0)", x.count(0), 3);
        DUE.is("prepare(0, 0, 5, 8)", x.prepare(0, 0, 5, 8), DecreePool.FULL);
        DUE.is("prepare(0, 0, 0, 8)", x.prepare(0, 0, 0, 8), DecreePool.OLD);
        DUE.is("count(0)", x.count(0), 3);
        DUE.is("proposer(0, 0, 0)", x.proposer(0, 0, 0), 1);
        DUE.is("proposer(0, 0, 1)", x.proposer(0, 0, 1), 3);
        DUE.is("proposer(0, 0, 2)", x.proposer(0, 0, 2), 1);
        x.deliver(0);
        DUE.is("proposer(0, 0, 4): the wish of old", x.proposer(0, 0, 4), 6);
    }

    private static void againForgetsPromises() {
        DecreePool x = new DecreePool(3, 1, 32);
        Due.decide(x, 0, 0, 0, 6);
        x.prepare(0, 0, 1, 8);
        DUE.is("proposer(0, 0, 0)", x.proposer(0, 0, 0), 1);
        DUE.is("proposer(0, 0, 2)", x.proposer(0, 0, 2), 0);
        DUE.is("proposer(0, 0, 3)", x.proposer(0, 0, 3), -1);
        DUE.is("proposer(0, 0, 4)", x.proposer(0, 0, 4), 0);
        x.deliver(0);
        x.deliver(0);
        DUE.is("proposer(0, 0, 3)", x.proposer(0, 0, 3), 0);
        x.prepare(0, 0, 2, 8);
        DUE.is("proposer(0, 0, 2) in phase 1 again", x.proposer(0, 0, 2), 0);
        DUE.is("proposer(0, 0, 3) in phase 1 again", x.proposer(0, 0, 3), -1);
    }

    private static void fullAtTheEdge() {
        DecreePool x = new DecreePool(5, 1, 10);
        DUE.is("prepare(0, 0, 0, 1)", x.prepare(0, 0, 0, 1), 0);
        x.duplicate(0);
        DUE.is("4 places for 5", x.prepare(1, 0, 0, 1), DecreePool.FULL);
        x.drop(5);
        DUE.is("5 places for 5", x.prepare(1, 0, 0, 1), 1);
        DUE.is("no place", x.prepare(2, 0, 0, 1), DecreePool.FULL);
    }
}
