/** Promise 15: chosen. */
public final class ChosenTest {
    private static final Due DUE = new Due();

    public static void main(String[] args) {
        asTheyAreNow();
        halfIsNoMajority();
        oneNode();
        sameValueOtherBallot();
        wrongInputs();
        DUE.end();
    }

    private static void allOfKind(DecreePool x, int kind) {
        for (int m = 0; m < x.count(3); m++) {
            if (x.message(m, 0) == kind) {
                x.deliver(m);
            }
        }
    }

    private static int acceptAt(DecreePool x, int ballot, int node) {
        for (int m = 0; m < x.count(3); m++) {
            if (x.message(m, 0) == 3 && x.message(m, 2) == node && x.message(m, 4) == ballot) {
                return x.deliver(m);
            }
        }
        return 0;
    }

    private static void asTheyAreNow() {
        DecreePool x = new DecreePool(3, 2, 64);
        x.prepare(0, 1, 0, 6);
        allOfKind(x, 1);
        allOfKind(x, 2);
        DUE.is("accept at 0", acceptAt(x, 0, 0), 3);
        DUE.is("chosen(1)", x.chosen(1), 0);
        DUE.is("accept at 2", acceptAt(x, 0, 2), 3);
        DUE.is("chosen(1)", x.chosen(1), 6);
        DUE.is("chosen(0)", x.chosen(0), 0);
        x.crash(0);
        x.crash(2);
        DUE.is("chosen(1) of nodes that are down", x.chosen(1), 6);
        x.restart(0);
        x.restart(2);
        DUE.is("chosen(1)", x.chosen(1), 6);
        x.prepare(1, 1, 1, 8);
        allOfKind(x, 1);
        allOfKind(x, 2);
        DUE.is("accept of 4 at 0", acceptAt(x, 4, 0), 3);
        DUE.is("chosen(1): the ballots are apart now", x.chosen(1), 0);
        DUE.is("accept of 4 at 1", acceptAt(x, 4, 1), 3);
        DUE.is("chosen(1)", x.chosen(1), 6);
    }

    private static void halfIsNoMajority() {
        DecreePool x = new DecreePool(4, 1, 64);
        x.prepare(0, 0, 0, 6);
        allOfKind(x, 1);
        allOfKind(x, 2);
        acceptAt(x, 0, 1);
        acceptAt(x, 0, 2);
        DUE.is("chosen(0)", x.chosen(0), 0);
        acceptAt(x, 0, 3);
        DUE.is("chosen(0): not with node 0", x.chosen(0), 6);
    }

    private static void oneNode() {
        DecreePool x = new DecreePool(1, 1, 8);
        x.prepare(0, 0, 0, 6);
        x.sweep(2);
        DUE.is("chosen(0)", x.chosen(0), 0);
        x.sweep(1);
        DUE.is("chosen(0) of one node", x.chosen(0), 6);
    }

    private static void sameValueOtherBallot() {
        DecreePool x = new DecreePool(3, 1, 64);
        x.prepare(0, 0, 0, 6);
        x.deliver(0);
        x.deliver(1);
        x.deliver(0);
        x.deliver(1);
        acceptAt(x, 0, 0);
        x.prepare(1, 0, 0, 6);
        allOfKind(x, 1);
        allOfKind(x, 2);
        acceptAt(x, 1, 2);
        DUE.is("acceptor(0, 0, 2)", x.acceptor(0, 0, 2), 6);
        DUE.is("acceptor(2, 0, 2)", x.acceptor(2, 0, 2), 6);
        DUE.is("chosen(0)", x.chosen(0), 0);
    }

    private static void wrongInputs() {
        DecreePool x = new DecreePool(3, 2, 16);
        for (int slot : new int[] {-1, 2, Integer.MIN_VALUE, Integer.MAX_VALUE}) {
            DUE.is("chosen(" + slot + ")", x.chosen(slot), -1);
        }
    }
}
