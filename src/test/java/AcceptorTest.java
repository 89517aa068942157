/** Promise 11: acceptor. */
public final class AcceptorTest {
    private static final Due DUE = new Due();

    public static void main(String[] args) {
        promisedAndAccepted();
        noSuchNode();
        noSuchSlot();
        anotherWhat();
        DUE.end();
    }

    private static void state(Run run, int node, int slot, int... want) {
        for (int what = 0; what < 3; what++) {
            DUE.unchanged(run, want[what], "acceptor", node, slot, what);
        }
    }

    private static void promisedAndAccepted() {
        DUE.of("has promised (what = 0), the ballot (1) and the value (2) that it has accepted");
        Run run = Run.of(3, 2, 32).decide(1, 1, 2, 6).prepare(2, 1, 4, 9).deliver(0);
        state(run, 0, 1, 14, 7, 6);
        state(run, 2, 1, 7, 7, 6);
        state(run, 0, 0, -1, -1, 0);
        state(run.crash(0), 0, 1, 14, 7, 6);
        Run extremes = Run.of(5, 1, 32).decide(4, 0, 1000, Integer.MAX_VALUE);
        state(extremes, 4, 0, 5004, 5004, Integer.MAX_VALUE);
        Run least = Run.of(5, 1, 32).decide(0, 0, 0, 1);
        state(least, 4, 0, 0, 0, 1);
    }

    private static void noSuchNode() {
        DUE.of("NONE also when there is no such node");
        for (int n = 1; n <= 5; n++) {
            Run run = Run.busy(n, 2, 20);
            DUE.is(run, 6, "acceptor", 0, 0, 2);
            DUE.is(run, 6, "acceptor", n - 1, 0, 2);
            for (int node : Due.outside(0, n - 1)) {
                for (int what = 0; what < 3; what++) {
                    DUE.unchanged(run, -1, "acceptor", node, 0, what);
                }
            }
        }
    }

    private static void noSuchSlot() {
        DUE.of("NONE also when there is no such slot");
        for (int slots = 1; slots <= 4; slots++) {
            Run run = Run.of(3, slots, 20).decide(0, 0, 0, 6).decide(0, slots - 1, 1, 6);
            DUE.is(run, 6, "acceptor", 1, 0, 2);
            DUE.is(run, 6, "acceptor", 1, slots - 1, 2);
            for (int slot : Due.outside(0, slots - 1)) {
                for (int what = 0; what < 3; what++) {
                    DUE.unchanged(run, -1, "acceptor", 1, slot, what);
                }
            }
        }
    }

    private static void anotherWhat() {
        DUE.of("NONE for another what");
        Run run = Run.of(3, 2, 32).decide(1, 1, 2, 6);
        DUE.is(run, 7, "acceptor", 0, 1, 0);
        DUE.is(run, 6, "acceptor", 0, 1, 2);
        for (int what : Due.outside(0, 2)) {
            DUE.unchanged(run, -1, "acceptor", 0, 1, what);
        }
    }
}
