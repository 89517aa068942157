/** Promise 9: tell. */
public final class TellTest {
    private static final Due DUE = new Due();

    public static void main(String[] args) {
        messages();
        noSuchNode();
        noSuchSlot();
        nothingLearned();
        nodeDown();
        fewerThanAllPlacesEmpty();
        theFirstThatIsSo();
        DUE.end();
    }

    private static void messages() {
        DUE.of("tells what it has learned to all (kind 5, ballot -1): the value");
        Run run = Run.of(3, 2, 16).decide(0, 1, 0, 6);
        DUE.is(run, 6, "tell", 2, 1);
        DUE.is(run.tell(2, 1), 3, "count", 0);
        for (int m = 0; m < 3; m++) {
            int[] want = {5, 2, m, 1, -1, 6, -1};
            for (int what = 0; what < 7; what++) {
                DUE.is(run.tell(2, 1), want[what], "message", m, what);
            }
        }
        for (int value : new int[] {1, Integer.MAX_VALUE}) {
            DUE.is(Run.of(3, 1, 16).decide(0, 0, 0, value), value, "tell", 1, 0);
        }
    }

    private static void noSuchNode() {
        DUE.of("NONE: there is no such node");
        for (int n = 1; n <= 5; n++) {
            Run run = Run.busy(n, 2, 20);
            DUE.is(run, 6, "tell", 0, 0);
            DUE.is(run, 6, "tell", n - 1, 0);
            for (int node : Due.outside(0, n - 1)) {
                DUE.unchanged(run, -1, "tell", node, 0);
            }
        }
    }

    private static void noSuchSlot() {
        DUE.of("NONE: there is no such slot");
        for (int slots = 1; slots <= 4; slots++) {
            Run run = Run.of(3, slots, 20);
            for (int slot = 0; slot < slots; slot++) {
                run = run.decide(1, slot, 0, 8 + slot);
            }
            DUE.is(run, 8, "tell", 1, 0);
            DUE.is(run, 7 + slots, "tell", 1, slots - 1);
            for (int slot : Due.outside(0, slots - 1)) {
                DUE.unchanged(run, -1, "tell", 1, slot);
            }
        }
    }

    private static void nothingLearned() {
        DUE.of("NONE: nothing learned");
        for (int n = 1; n <= 5; n++) {
            Run run = Run.of(n, 2, 20).elect(0, 1, 1, 6);
            for (int i = 0; i < Run.majority(n); i++) {
                run = run.hand(3, 0, i, n);
            }
            for (int i = 0; i < Run.majority(n); i++) {
                DUE.unchanged(run, -1, "tell", n - 1, 1);
                run = run.hand(4, i, n - 1, n);
            }
            DUE.is(run, 6, "tell", n - 1, 1);
            DUE.unchanged(run, -1, "tell", n - 1, 0);
            DUE.unchanged(run.crash(n - 1).restart(n - 1), -1, "tell", n - 1, 1);
        }
    }

    private static void nodeDown() {
        DUE.of("DOWN");
        for (int n = 1; n <= 5; n++) {
            for (int node = 0; node < n; node++) {
                Run run = Run.busy(n, 2, 20).crash(node);
                DUE.unchanged(run, DecreePool.DOWN, "tell", node, 0);
                for (int other = 0; other < n; other++) {
                    if (other != node) {
                        DUE.is(run, 6, "tell", other, 0);
                    }
                }
            }
        }
    }

    private static void fewerThanAllPlacesEmpty() {
        DUE.of("FULL: fewer than N places are empty");
        for (int n = 1; n <= 5; n++) {
            for (int places : new int[] {16, 64}) {
                Run run = Run.of(n, 2, places).decide(0, 0, 1, 6).prepare(0, 1, 0, 9);
                for (int empty = 0; empty < n; empty++) {
                    DUE.unchanged(run.leaving(empty, 0), DecreePool.FULL, "tell", n - 1, 0);
                }
                Run fits = run.leaving(n, 0);
                DUE.is(fits, 6, "tell", n - 1, 0);
                DUE.is(fits.tell(n - 1, 0), places, "count", 0);
                DUE.is(fits.tell(n - 1, 0), 5, "message", places - 1, 0);
                DUE.is(fits.tell(n - 1, 0), n - 1, "message", places - 1, 2);
            }
        }
    }

    private static void theFirstThatIsSo() {
        DUE.of("NONE .. ; DOWN; FULL, in this order");
        Run full = Run.of(3, 2, 8).decide(0, 0, 0, 6).prepare(1, 1, 0, 9).leaving(0, 0);
        DUE.unchanged(full, DecreePool.FULL, "tell", 0, 0);
        DUE.unchanged(full, -1, "tell", 0, 1);
        Run down = full.crash(0);
        DUE.unchanged(down, DecreePool.DOWN, "tell", 0, 0);
        DUE.unchanged(down, -1, "tell", 0, 1);
        for (Run run : new Run[] {full, down}) {
            DUE.unchanged(run, -1, "tell", -1, 0);
            DUE.unchanged(run, -1, "tell", 3, 0);
            DUE.unchanged(run, -1, "tell", 0, -1);
            DUE.unchanged(run, -1, "tell", 0, 2);
        }
    }
}
