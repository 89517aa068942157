/** Promise 15: chosen. */
public final class ChosenTest {
    private static final Due DUE = new Due();

    public static void main(String[] args) {
        byAMajority();
        withTheSameBallot();
        asTheyAreNow();
        noneAtAll();
        noSuchSlot();
        DUE.end();
    }

    private static void byAMajority() {
        DUE.of("accepted with the same ballot by a majority of acceptors; 0 when there is none");
        int[] majority = {0, 1, 2, 2, 3, 3};
        for (int n = 1; n <= 5; n++) {
            for (int first = 0; first < n; first++) {
                Run run = Run.of(n, 2, 64).elect(n - 1, 1, 0, 7);
                for (int i = 1; i <= n; i++) {
                    DUE.unchanged(run, i <= majority[n] ? 0 : 7, "chosen", 1);
                    run = run.hand(3, n - 1, (first + i) % n, n - 1);
                }
                DUE.unchanged(run, 7, "chosen", 1);
                DUE.unchanged(run, 0, "chosen", 0);
            }
        }
    }

    private static void withTheSameBallot() {
        DUE.of("with the same ballot: the same value of other ballots does not do");
        // Node 0 has accepted 6 with ballot 0, node 2 has accepted 6 with ballot 1.
        Run run = Run.of(3, 1, 16).elect(0, 0, 0, 6).deliver(0).empty()
                .prepare(1, 0, 0, 6).deliver(1, 2).drop(0).deliver(1, 2).deliver(2);
        DUE.is(run, 0, "acceptor", 0, 0, 1);
        DUE.is(run, 6, "acceptor", 0, 0, 2);
        DUE.is(run, 1, "acceptor", 2, 0, 1);
        DUE.is(run, 6, "acceptor", 2, 0, 2);
        DUE.is(run, 0, "chosen", 0);
        DUE.is(run.hand(3, 1, 1, 1), 6, "chosen", 0);
    }

    private static void asTheyAreNow() {
        DUE.of("as they are now");
        Run run = Run.of(3, 2, 32).elect(0, 1, 0, 6).hand(3, 0, 0, 0).hand(3, 0, 2, 0);
        DUE.is(run, 6, "chosen", 1);
        DUE.is(run.crash(0, 2), 6, "chosen", 1);
        DUE.is(run.crash(0, 2).restart(0, 2), 6, "chosen", 1);
        Run apart = run.empty().elect(1, 1, 1, 8).hand(3, 1, 0, 4);
        DUE.is(apart, 0, "chosen", 1);
        DUE.is(apart.hand(3, 1, 1, 4), 6, "chosen", 1);
    }

    private static void noneAtAll() {
        DUE.of("0 when there is none: ballots that were only promised, or nothing");
        for (int n = 1; n <= 5; n++) {
            Run run = Run.of(n, 1, 32);
            DUE.is(run, 0, "chosen", 0);
            DUE.is(run.elect(0, 0, 0, 6), 0, "chosen", 0);
        }
    }

    private static void noSuchSlot() {
        DUE.of("NONE: no such slot");
        for (int slots = 1; slots <= 4; slots++) {
            Run run = Run.of(3, slots, 20).decide(0, 0, 0, 6).decide(0, slots - 1, 1, 6);
            DUE.is(run, 6, "chosen", 0);
            DUE.is(run, 6, "chosen", slots - 1);
            for (int slot : Due.outside(0, slots - 1)) {
                DUE.unchanged(run, -1, "chosen", slot);
            }
        }
    }
}
