/** Promise 12: proposer. */
public final class ProposerTest {
    private static final Due DUE = new Due();

    public static void main(String[] args) {
        eachPhase();
        nothingInPhase0();
        noneForABestOne();
        noValueBeforePhase2();
        noSuchNode();
        noSuchSlot();
        anotherWhat();
        DUE.end();
    }

    private static void state(Run run, int node, int slot, int... want) {
        for (int what = 0; what < 5; what++) {
            DUE.unchanged(run, want[what], "proposer", node, slot, what);
        }
    }

    private static void eachPhase() {
        DUE.of("the phase (what = 0), the last ballot (1); how many have promised (2)");
        Run run = Run.of(3, 2, 32).prepare(1, 1, 2, 6);
        state(run, 1, 1, 1, 7, 0, -1, 0);
        state(run, 1, 0, 0, -1, 0, -1, 0);
        state(run, 0, 1, 0, -1, 0, -1, 0);
        state(run.sweep(2), 1, 1, 1, 7, 1, -1, 0);
        state(run.sweep(100), 1, 1, 2, 7, 2, -1, 6);
        Run other = run.sweep(100).prepare(0, 1, 3, 9).deliver(0, 0);
        state(other, 0, 1, 1, 9, 1, 7, 0);
        state(other.sweep(100), 0, 1, 2, 9, 2, 7, 6);
        state(other.sweep(100), 1, 1, 2, 7, 2, -1, 6);
        state(other.sweep(100).crash(0), 0, 1, 2, 9, 2, 7, 6);
    }

    // Node 0 has a best one told, in phase 1; the ballot before that was in phase 2.
    private static Run bestTold() {
        return Run.of(3, 1, 32).decide(0, 0, 0, 6).prepare(0, 0, 1, 9).deliver(0, 0);
    }

    private static void nothingInPhase0() {
        DUE.of("both of the ballot that was prepared last, 0 and -1 in phase 0");
        state(Run.of(3, 1, 32), 0, 0, 0, -1, 0, -1, 0);
        Run phase1 = bestTold();
        state(phase1, 0, 0, 1, 3, 1, 0, 0);
        state(phase1.crash(0).restart(0), 0, 0, 0, 3, 0, -1, 0);
        Run phase2 = phase1.sweep(100);
        state(phase2, 0, 0, 2, 3, 2, 0, 6);
        state(phase2.crash(0).restart(0), 0, 0, 0, 3, 0, -1, 0);
        DUE.of("both of the ballot that was prepared last");
        state(phase1.prepare(0, 0, 2, 9), 0, 0, 1, 6, 0, -1, 0);
        state(phase2.prepare(0, 0, 2, 9), 0, 0, 1, 6, 0, -1, 0);
    }

    private static void noneForABestOne() {
        DUE.of("the best ballot that was told (3, -1 for none)");
        Run none = Run.of(3, 1, 32).prepare(0, 0, 1, 9).deliver(0, 0);
        state(none, 0, 0, 1, 3, 1, -1, 0);
        state(bestTold(), 0, 0, 1, 3, 1, 0, 0);
    }

    private static void noValueBeforePhase2() {
        DUE.of("the value of its accepts (4), 0 when the phase is not 2");
        for (int n = 1; n <= 5; n++) {
            Run run = Run.of(n, 1, 32).prepare(0, 0, 1, 9);
            for (int i = 0; i < Run.majority(n); i++) {
                DUE.unchanged(run, 0, "proposer", 0, 0, 4);
                run = run.hand(1, 0, i, n);
                DUE.unchanged(run, 0, "proposer", 0, 0, 4);
                run = run.hand(2, i, 0, n);
            }
            DUE.unchanged(run, 9, "proposer", 0, 0, 4);
            DUE.unchanged(run.crash(0), 9, "proposer", 0, 0, 4);
            DUE.unchanged(run.crash(0).restart(0), 0, "proposer", 0, 0, 4);
            DUE.unchanged(run.prepare(0, 0, 2, 8), 0, "proposer", 0, 0, 4);
        }
    }

    private static void noSuchNode() {
        DUE.of("NONE when there is no such node");
        for (int n = 1; n <= 5; n++) {
            Run run = Run.busy(n, 2, 20);
            DUE.is(run, 5 * n, "proposer", 0, 1, 1);
            DUE.is(run, 4 * n - 1, "proposer", n - 1, 0, 1);
            for (int node : Due.outside(0, n - 1)) {
                for (int what = 0; what < 5; what++) {
                    DUE.unchanged(run, -1, "proposer", node, 0, what);
                }
            }
        }
    }

    private static void noSuchSlot() {
        DUE.of("NONE when there is no such slot");
        for (int slots = 1; slots <= 4; slots++) {
            Run run = Run.of(3, slots, 20).decide(1, 0, 0, 6).decide(1, slots - 1, 1, 6);
            DUE.is(run, 6, "proposer", 1, 0, 4);
            DUE.is(run, 4, "proposer", 1, slots - 1, 1);
            for (int slot : Due.outside(0, slots - 1)) {
                for (int what = 0; what < 5; what++) {
                    DUE.unchanged(run, -1, "proposer", 1, slot, what);
                }
            }
        }
    }

    private static void anotherWhat() {
        DUE.of("NONE for another what");
        Run run = bestTold().sweep(100);
        DUE.is(run, 2, "proposer", 0, 0, 0);
        DUE.is(run, 6, "proposer", 0, 0, 4);
        for (int what : Due.outside(0, 4)) {
            DUE.unchanged(run, -1, "proposer", 0, 0, what);
        }
    }
}
