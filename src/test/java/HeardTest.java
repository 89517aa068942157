/** Promise 13: heard. */
public final class HeardTest {
    private static final Due DUE = new Due();

    public static void main(String[] args) {
        theGreatestBallot();
        noneAtAll();
        noSuchNode();
        noSuchOtherNode();
        noSuchSlot();
        DUE.end();
    }

    private static void theGreatestBallot() {
        DUE.of("The ballot that a node's learner has heard of another node");
        Run run = Run.of(3, 2, 32).crash(2).decide(1, 1, 2, 6);
        DUE.unchanged(run, 7, "heard", 0, 1, 0);
        DUE.unchanged(run, 7, "heard", 0, 1, 1);
        Run again = run.restart(2).decide(0, 1, 3, 8);
        DUE.is(again, 9, "heard", 1, 1, 0);
        DUE.is(again, 9, "heard", 1, 1, 2);
        DUE.is(again.crash(1), 9, "heard", 1, 1, 0);
        Run least = Run.of(5, 1, 32).decide(0, 0, 0, 6);
        DUE.is(least, 0, "heard", 4, 0, 0);
        Run greatest = Run.of(5, 1, 32).decide(4, 0, 1000, 6);
        DUE.is(greatest, 5004, "heard", 0, 0, 4);
    }

    private static void noneAtAll() {
        DUE.of("NONE for none");
        Run run = Run.of(3, 2, 32).crash(2).decide(1, 1, 2, 6);
        DUE.unchanged(run, -1, "heard", 0, 1, 2);
        DUE.unchanged(run, -1, "heard", 2, 1, 0);
        DUE.unchanged(run, -1, "heard", 0, 0, 1);
        DUE.unchanged(run.crash(1).restart(1), -1, "heard", 1, 1, 0);
    }

    private static void noSuchNode() {
        DUE.of("NONE when there is no such node: whose learner it is");
        for (int n = 1; n <= 5; n++) {
            Run run = Run.busy(n, 2, 20);
            for (int of = 0; of < n; of++) {
                DUE.is(run, n, "heard", 0, 0, of);
                DUE.is(run, n, "heard", n - 1, 0, of);
                for (int node : Due.outside(0, n - 1)) {
                    DUE.unchanged(run, -1, "heard", node, 0, of);
                }
            }
        }
    }

    private static void noSuchOtherNode() {
        DUE.of("NONE when there is no such node: of which it has heard");
        for (int n = 1; n <= 5; n++) {
            Run run = Run.busy(n, 2, 20);
            for (int node = 0; node < n; node++) {
                for (int of : Due.outside(0, n - 1)) {
                    DUE.unchanged(run, -1, "heard", node, 0, of);
                }
            }
        }
    }

    private static void noSuchSlot() {
        DUE.of("NONE when there is no such slot");
        for (int slots = 1; slots <= 4; slots++) {
            Run run = Run.of(3, slots, 20).decide(0, 0, 1, 6).decide(0, slots - 1, 2, 6);
            DUE.is(run, slots == 1 ? 6 : 3, "heard", 1, 0, 2);
            DUE.is(run, 6, "heard", 1, slots - 1, 2);
            for (int slot : Due.outside(0, slots - 1)) {
                for (int node = 0; node < 3; node++) {
                    DUE.unchanged(run, -1, "heard", node, slot, 2 - node);
                }
            }
        }
    }
}
