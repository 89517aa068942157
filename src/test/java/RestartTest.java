/** Promise 8: restart, and the term of a node that comes back. */
public final class RestartTest {
    private static final Due DUE = new Due();

    public static void main(String[] args) {
        howManyAreUp();
        noSuchNode();
        itIsUp();
        proposersOfPhase0();
        phase1IsForgotten();
        acceptorsAsBefore();
        learnersOfNothing();
        othersAsBefore();
        DUE.end();
    }

    private static void howManyAreUp() {
        DUE.of("A node comes back: how many are up then");
        for (int n = 1; n <= 5; n++) {
            Run run = Run.of(n, 1, 8);
            for (int i = 0; i < n; i++) {
                run = run.crash(i);
            }
            for (int i = 0; i < n; i++) {
                DUE.is(run, i + 1, "restart", n - 1 - i);
                run = run.restart(n - 1 - i);
                DUE.is(run, (1 << n) - (1 << n - 1 - i), "count", 6);
            }
        }
    }

    private static void noSuchNode() {
        DUE.of("NONE: there is no such node");
        for (int n = 1; n <= 5; n++) {
            Run run = Run.busy(n, 2, 20);
            Run allDown = run;
            for (int node = 0; node < n; node++) {
                allDown = allDown.crash(node);
            }
            DUE.is(allDown, 1, "restart", 0);
            DUE.is(allDown, 1, "restart", n - 1);
            for (int node : Due.outside(0, n - 1)) {
                DUE.unchanged(run, -1, "restart", node);
                DUE.unchanged(allDown, -1, "restart", node);
            }
        }
    }

    private static void itIsUp() {
        DUE.of("NONE: it is up");
        for (int n = 1; n <= 5; n++) {
            for (int node = 0; node < n; node++) {
                Run run = Run.busy(n, 2, 20);
                DUE.unchanged(run, -1, "restart", node);
                DUE.is(run.crash(node), n, "restart", node);
                DUE.unchanged(run.crash(node).restart(node), -1, "restart", node);
            }
        }
    }

    // In each slot node 1 has brought a value through.
    private static Run allSlotsDecided() {
        Run run = Run.of(3, 4, 32);
        for (int slot = 0; slot < 4; slot++) {
            run = run.decide(1, slot, slot, 10 + slot);
        }
        return run;
    }

    private static void proposersOfPhase0() {
        DUE.of("comes back with proposers of phase 0 (with their last ballots)");
        Run run = allSlotsDecided().crash(1).restart(1);
        for (int slot = 0; slot < 4; slot++) {
            int[] want = {0, 3 * slot + 1, 0, -1, 0};
            for (int what = 0; what < 5; what++) {
                DUE.is(run, want[what], "proposer", 1, slot, what);
            }
            DUE.unchanged(run, DecreePool.OLD, "prepare", 1, slot, slot, 8);
            DUE.is(run, 3 * slot + 4, "prepare", 1, slot, slot + 1, 8);
        }
    }

    private static void phase1IsForgotten() {
        DUE.of("comes back with proposers of phase 0: its promises come too late");
        Run run = Run.of(5, 1, 64).decide(0, 0, 0, 6).prepare(1, 0, 2, 8).deliver(0, 0);
        DUE.is(run, 1, "proposer", 1, 0, 2);
        DUE.is(run, 0, "proposer", 1, 0, 3);
        DUE.is(run.crash(1), 1, "proposer", 1, 0, 2);
        Run back = run.crash(1).restart(1);
        DUE.is(back, 0, "proposer", 1, 0, 2);
        DUE.is(back, -1, "proposer", 1, 0, 3);
        DUE.is(back.sweep(100), 0, "proposer", 1, 0, 0);
        DUE.is(back.sweep(100), 0, "proposer", 1, 0, 2);
        DUE.is(back.sweep(100), -1, "proposer", 1, 0, 3);
        DUE.is(back.sweep(100), 11, "proposer", 1, 0, 1);
    }

    private static void acceptorsAsBefore() {
        DUE.of("comes back with acceptors as before");
        Run decided = allSlotsDecided().crash(1).restart(1);
        for (int slot = 0; slot < 4; slot++) {
            DUE.is(decided, 3 * slot + 1, "acceptor", 1, slot, 0);
            DUE.is(decided, 3 * slot + 1, "acceptor", 1, slot, 1);
            DUE.is(decided, 10 + slot, "acceptor", 1, slot, 2);
        }
        Run promised = Run.of(3, 1, 16).prepare(2, 0, 5, 6).deliver(0).crash(0).restart(0);
        DUE.is(promised, 17, "acceptor", 0, 0, 0);
        Run less = promised.prepare(0, 0, 1, 8);
        DUE.is(less, 1, "deliver", 3);
        DUE.is(less.deliver(3), 5, "count", 0);
    }

    private static void learnersOfNothing() {
        DUE.of("comes back with learners that heard and learned nothing");
        Run run = allSlotsDecided();
        DUE.is(run, 4, "prefix", 1);
        DUE.is(run.crash(1), 4, "prefix", 1);
        Run back = run.crash(1).restart(1);
        DUE.is(back, 0, "prefix", 1);
        DUE.is(back, 0, "applied", 1);
        for (int slot = 0; slot < 4; slot++) {
            DUE.is(run, 10 + slot, "learned", 1, slot);
            DUE.is(back, 0, "learned", 1, slot);
            for (int of = 0; of < 3; of++) {
                DUE.is(run, 3 * slot + 1, "heard", 1, slot, of);
                DUE.is(back, -1, "heard", 1, slot, of);
            }
        }
    }

    private static void othersAsBefore() {
        DUE.of("A node that comes back: no other");
        Run run = allSlotsDecided();
        Run back = run.crash(1).restart(1);
        for (int node = 0; node < 3; node += 2) {
            DUE.is(back, 4, "prefix", node);
            for (int slot = 0; slot < 4; slot++) {
                DUE.is(back, 10 + slot, "learned", node, slot);
                DUE.is(back, 3 * slot + 1, "heard", node, slot, 1);
                DUE.is(back, 3 * slot + 1, "acceptor", node, slot, 1);
            }
        }
        Run preparing = run.prepare(0, 0, 7, 5).crash(1).restart(1);
        DUE.is(preparing, 1, "proposer", 0, 0, 0);
        DUE.is(preparing, 3, "count", 0);
    }
}
