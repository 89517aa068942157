/** Promise 7: crash. */
public final class CrashTest {
    private static final Due DUE = new Due();

    public static void main(String[] args) {
        howManyAreUp();
        noSuchNode();
        itIsDown();
        keptUntilItComesBack();
        DUE.end();
    }

    private static void howManyAreUp() {
        DUE.of("A node crashes: how many are up then");
        for (int n = 1; n <= 5; n++) {
            Run upward = Run.of(n, 1, 8);
            Run downward = upward;
            for (int i = 0; i < n; i++) {
                DUE.is(upward, n - 1 - i, "crash", i);
                DUE.is(downward, n - 1 - i, "crash", n - 1 - i);
                upward = upward.crash(i);
                downward = downward.crash(n - 1 - i);
                DUE.is(upward, (1 << n) - (2 << i), "count", 6);
                DUE.is(downward, (1 << n - 1 - i) - 1, "count", 6);
            }
        }
    }

    private static void noSuchNode() {
        DUE.of("NONE: there is no such node");
        for (int n = 1; n <= 5; n++) {
            Run run = Run.busy(n, 2, 20);
            DUE.is(run, n - 1, "crash", 0);
            DUE.is(run, n - 1, "crash", n - 1);
            for (int node : Due.outside(0, n - 1)) {
                DUE.unchanged(run, -1, "crash", node);
                DUE.unchanged(run.crash(0), -1, "crash", node);
            }
        }
    }

    private static void itIsDown() {
        DUE.of("NONE: it is down");
        for (int n = 1; n <= 5; n++) {
            for (int node = 0; node < n; node++) {
                Run run = Run.busy(n, 2, 20).crash(node);
                DUE.unchanged(run, -1, "crash", node);
                DUE.is(run.restart(node), n - 1, "crash", node);
            }
        }
    }

    private static void keptUntilItComesBack() {
        DUE.of("A node that comes back: what it had is there until then");
        Run run = Run.of(3, 2, 16).decide(0, 0, 0, 6).prepare(0, 1, 0, 8).crash(0);
        DUE.is(run, 3, "count", 0);
        DUE.is(run, 6, "learned", 0, 0);
        DUE.is(run, 0, "heard", 0, 0, 2);
        DUE.is(run, 2, "proposer", 0, 0, 0);
        DUE.is(run, 6, "proposer", 0, 0, 4);
        DUE.is(run, 1, "proposer", 0, 1, 0);
        DUE.is(run, 6, "acceptor", 0, 0, 2);
        DUE.is(run, 1, "prefix", 0);
        DUE.is(run, 6, "applied", 0);
        DUE.is(run, 6, "count", 6);
    }
}
