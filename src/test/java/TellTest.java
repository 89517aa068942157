/** Promise 9: tell. */
public final class TellTest {
    private static final Due DUE = new Due();

    public static void main(String[] args) {
        wrongInputs();
        messages();
        learnedFromIt();
        orderOfRefusals();
        DUE.end();
    }

    private static void wrongInputs() {
        DecreePool x = new DecreePool(3, 2, 16);
        Due.decide(x, 0, 0, 0, 6);
        int[][] wrong = {{-1, 0}, {3, 0}, {0, -1}, {0, 2}, {0, 1},
            {Integer.MIN_VALUE, 0}, {Integer.MAX_VALUE, 0},
            {0, Integer.MIN_VALUE}, {0, Integer.MAX_VALUE}};
        for (int[] w : wrong) {
            DUE.is("tell(" + w[0] + ", " + w[1] + ")", x.tell(w[0], w[1]), -1);
        }
        DUE.is("count(0)", x.count(0), 0);
    }

    private static void messages() {
        DecreePool x = new DecreePool(3, 2, 16);
        Due.decide(x, 0, 1, 0, 6);
        DUE.is("tell(2, 1)", x.tell(2, 1), 6);
        DUE.is("count(0)", x.count(0), 3);
        for (int m = 0; m < 3; m++) {
            int[] want = {5, 2, m, 1, -1, 6, -1};
            for (int what = 0; what < 7; what++) {
                DUE.is("message(" + m + ", " + what + ")", x.message(m, what), want[what]);
            }
        }
    }

    private static void learnedFromIt() {
        DecreePool x = new DecreePool(3, 2, 16);
        x.crash(1);
        Due.decide(x, 0, 1, 0, 6);
        x.restart(1);
        x.tell(0, 1);
        DUE.is("learned(1, 1)", x.learned(1, 1), 0);
        DUE.is("deliver(1)", x.deliver(1), 5);
        DUE.is("learned(1, 1)", x.learned(1, 1), 6);
        DUE.is("learned(1, 0)", x.learned(1, 0), 0);
        DUE.is("heard(1, 1, 0): nothing is heard by it", x.heard(1, 1, 0), -1);
        DUE.is("acceptor(1, 1, 1)", x.acceptor(1, 1, 1), -1);
        DUE.is("deliver(2)", x.deliver(2), 5);
        DUE.is("learned(2, 1)", x.learned(2, 1), 6);
        DUE.is("tell(1, 1): on from node 1", x.tell(1, 1), 6);
    }

    private static void orderOfRefusals() {
        DecreePool x = new DecreePool(3, 2, 5);
        Due.decide(x, 0, 0, 0, 6);
        x.prepare(1, 1, 0, 9);
        DUE.is("2 places for 3", x.tell(0, 0), DecreePool.FULL);
        DUE.is("count(0)", x.count(0), 3);
        DUE.is("NONE before FULL", x.tell(0, 1), DecreePool.NONE);
        x.crash(0);
        DUE.is("DOWN before FULL", x.tell(0, 0), DecreePool.DOWN);
        DUE.is("NONE before DOWN", x.tell(0, 1), DecreePool.NONE);
        x.restart(0);
        DUE.is("nothing learned", x.tell(0, 0), DecreePool.NONE);
        x.drop(0);
        DUE.is("3 places for 3", x.tell(1, 0), 6);
        DUE.is("count(0)", x.count(0), 5);
    }
}
