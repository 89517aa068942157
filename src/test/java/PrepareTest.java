/** Promise 2: prepare. */
public final class PrepareTest {
    private static final Due DUE = new Due();

    public static void main(String[] args) {
        messages();
        againForgetsPromises();
        noSuchNode();
        noSuchSlot();
        noSuchRound();
        valueLessThanOne();
        nodeDown();
        ballotNotGreater();
        fewerThanAllPlacesEmpty();
        theFirstThatIsSo();
        DUE.end();
    }

    private static void fields(Run run, int m, int... want) {
        for (int what = 0; what < 7; what++) {
            DUE.is(run, want[what], "message", m, what);
        }
    }

    private static void messages() {
        DUE.of("it sends a PREPARE (kind 1, value 0) to all");
        Run run = Run.of(3, 2, 8).prepare(2, 1, 4, 9);
        DUE.is(run, 3, "count", 0);
        for (int m = 0; m < 3; m++) {
            fields(run, m, 1, 2, m, 1, 14, 0, -1);
        }
        Run next = run.drop(1).prepare(0, 0, 0, 5);
        fields(next, 0, 1, 2, 0, 1, 14, 0, -1);
        fields(next, 1, 1, 0, 0, 0, 0, 0, -1);
        fields(next, 3, 1, 0, 1, 0, 0, 0, -1);
        fields(next, 4, 1, 0, 2, 0, 0, 0, -1);
        DUE.is(next, -1, "message", 5, 0);
    }

    private static void againForgetsPromises() {
        DUE.of("Preparing a ballot: the phase is 1, no promises, no best one");
        for (int node = 0; node < 3; node++) {
            for (int slot = 0; slot < 2; slot++) {
                forgetsPromises(node, slot);
            }
        }
        DUE.of("with a wish");
        Run twice = Run.of(1, 1, 5).prepare(0, 0, 0, 8).drop(0).prepare(0, 0, 1, 9).sweep(2);
        DUE.is(twice, 9, "proposer", 0, 0, 4);
    }

    private static void forgetsPromises(int node, int slot) {
        Run inPhase2 = Run.of(3, 2, 32).decide(node, slot, 0, 6);
        Run inPhase1 = inPhase2.prepare(node, slot, 1, 8).deliver(0, 0);
        DUE.is(inPhase2, 2, "proposer", node, slot, 2);
        DUE.is(inPhase1, 1, "proposer", node, slot, 2);
        DUE.is(inPhase1, node, "proposer", node, slot, 3);
        Run inPhase0 = inPhase1.crash(node).restart(node);
        for (Run run : new Run[] {inPhase0, inPhase1, inPhase2}) {
            int[] want = {1, 6 + node, 0, -1, 0};
            for (int what = 0; what < 5; what++) {
                DUE.is(run.prepare(node, slot, 2, 8), want[what], "proposer", node, slot, what);
            }
        }
    }

    private static void noSuchNode() {
        DUE.of("NONE there is no such node");
        for (int n = 1; n <= 5; n++) {
            Run run = Run.busy(n, 2, 20);
            DUE.is(run, 7 * n, "prepare", 0, 0, 7, 1);
            DUE.is(run, 8 * n - 1, "prepare", n - 1, 0, 7, 1);
            for (int node : Due.outside(0, n - 1)) {
                DUE.unchanged(run, -1, "prepare", node, 0, 7, 1);
            }
        }
    }

    private static void noSuchSlot() {
        DUE.of("NONE there is no such slot");
        for (int slots = 1; slots <= 4; slots++) {
            Run run = Run.busy(3, slots, 20);
            DUE.is(run, 22, "prepare", 1, 0, 7, 1);
            DUE.is(run, 22, "prepare", 1, slots - 1, 7, 1);
            for (int slot : Due.outside(0, slots - 1)) {
                DUE.unchanged(run, -1, "prepare", 1, slot, 7, 1);
            }
        }
    }

    private static void noSuchRound() {
        DUE.of("NONE there is no such round: a round is 0 .. 1000");
        for (int n = 1; n <= 5; n++) {
            for (int node = 0; node < n; node++) {
                Run run = Run.of(n, 1, 8);
                DUE.is(run, node, "prepare", node, 0, 0, 1);
                DUE.is(run, n + node, "prepare", node, 0, 1, 1);
                DUE.is(run, 999 * n + node, "prepare", node, 0, 999, 1);
                DUE.is(run, 1000 * n + node, "prepare", node, 0, 1000, 1);
            }
            Run busy = Run.busy(n, 1, 20);
            for (int round : Due.outside(0, 1000)) {
                DUE.unchanged(busy, -1, "prepare", n - 1, 0, round, 1);
            }
        }
    }

    private static void valueLessThanOne() {
        DUE.of("NONE the value is less than 1");
        for (int value : new int[] {1, 2, Integer.MAX_VALUE - 1, Integer.MAX_VALUE}) {
            Run run = Run.of(3, 1, 8);
            DUE.is(run, 0, "prepare", 0, 0, 0, value);
            DUE.is(run.elect(0, 0, 0, value), value, "proposer", 0, 0, 4);
            DUE.is(run.elect(0, 0, 0, value), value, "message", 2, 5);
        }
        Run busy = Run.busy(3, 1, 20);
        for (int value : new int[] {0, -1, -2, Integer.MIN_VALUE + 1, Integer.MIN_VALUE}) {
            DUE.unchanged(busy, -1, "prepare", 2, 0, 7, value);
        }
    }

    private static void nodeDown() {
        DUE.of("DOWN the node is down");
        for (int n = 1; n <= 5; n++) {
            for (int node = 0; node < n; node++) {
                Run run = Run.busy(n, 2, 20).crash(node);
                for (int other = 0; other < n; other++) {
                    if (other != node) {
                        DUE.is(run, 7 * n + other, "prepare", other, 1, 7, 1);
                    }
                }
                DUE.unchanged(run, DecreePool.DOWN, "prepare", node, 1, 7, 1);
                DUE.is(run.restart(node), 7 * n + node, "prepare", node, 1, 7, 1);
            }
        }
    }

    private static void ballotNotGreater() {
        DUE.of("OLD the ballot is not greater than its last one");
        DUE.is(Run.of(3, 1, 8), 0, "prepare", 0, 0, 0, 1);
        for (int n = 1; n <= 5; n++) {
            int node = n - 1;
            Run run = Run.of(n, 2, 32).prepare(node, 0, 4, 6).sweep(2);
            DUE.unchanged(run, DecreePool.OLD, "prepare", node, 0, 0, 8);
            DUE.unchanged(run, DecreePool.OLD, "prepare", node, 0, 3, 8);
            DUE.unchanged(run, DecreePool.OLD, "prepare", node, 0, 4, 8);
            DUE.is(run, 5 * n + node, "prepare", node, 0, 5, 8);
            DUE.is(run, node, "prepare", node, 1, 0, 8);
            if (n > 1) {
                // What others have prepared and promised does not make a ballot old.
                DUE.is(run, 0, "prepare", 0, 0, 0, 8);
            }
            Run back = run.crash(node).restart(node);
            DUE.unchanged(back, DecreePool.OLD, "prepare", node, 0, 4, 8);
            DUE.is(back, 5 * n + node, "prepare", node, 0, 5, 8);
        }
        Run last = Run.of(3, 1, 8).prepare(2, 0, 1000, 6);
        DUE.unchanged(last, DecreePool.OLD, "prepare", 2, 0, 1000, 6);
        DUE.unchanged(last, DecreePool.OLD, "prepare", 2, 0, 999, 6);
        DUE.unchanged(last, -1, "prepare", 2, 0, 1001, 6);
    }

    private static void fewerThanAllPlacesEmpty() {
        DUE.of("FULL fewer than N places are empty");
        for (int n = 1; n <= 5; n++) {
            for (int places : new int[] {10, 32, 64}) {
                Run run = Run.of(n, 2, places).prepare(0, 0, 0, 6);
                for (int empty = 0; empty < n; empty++) {
                    Run full = run.leaving(empty, 0);
                    DUE.unchanged(full, DecreePool.FULL, "prepare", n - 1, 1, 0, 8);
                }
                Run fits = run.leaving(n, 0);
                DUE.is(fits, n - 1, "prepare", n - 1, 1, 0, 8);
                DUE.is(fits.prepare(n - 1, 1, 0, 8), places, "count", 0);
                fields(fits.prepare(n - 1, 1, 0, 8), places - 1, 1, n - 1, n - 1, 1, n - 1, 0, -1);
            }
        }
        Run least = Run.of(5, 1, 5);
        DUE.is(least, 4, "prepare", 4, 0, 0, 1);
        DUE.unchanged(least.prepare(4, 0, 0, 1), DecreePool.FULL, "prepare", 4, 0, 1, 1);
    }

    private static void theFirstThatIsSo() {
        DUE.of("Refused, with the first that is so");
        Run full = Run.of(3, 2, 8).prepare(1, 0, 2, 6).leaving(2, 0);
        DUE.unchanged(full, DecreePool.FULL, "prepare", 1, 0, 3, 6);
        DUE.unchanged(full, DecreePool.OLD, "prepare", 1, 0, 2, 6);
        Run down = full.crash(1);
        DUE.unchanged(down, DecreePool.DOWN, "prepare", 1, 0, 3, 6);
        DUE.unchanged(down, DecreePool.DOWN, "prepare", 1, 0, 2, 6);
        Run notFull = down.empty();
        DUE.unchanged(notFull, DecreePool.DOWN, "prepare", 1, 0, 2, 6);
        for (Run run : new Run[] {full, down, notFull}) {
            DUE.unchanged(run, -1, "prepare", -1, 0, 2, 6);
            DUE.unchanged(run, -1, "prepare", 3, 0, 2, 6);
            DUE.unchanged(run, -1, "prepare", 1, -1, 2, 6);
            DUE.unchanged(run, -1, "prepare", 1, 2, 2, 6);
            DUE.unchanged(run, -1, "prepare", 1, 0, -1, 6);
            DUE.unchanged(run, -1, "prepare", 1, 0, 1001, 6);
            DUE.unchanged(run, -1, "prepare", 1, 0, 2, 0);
        }
    }
}
