/** Promise 1: a new object. */
public final class NewObjectTest {
    private static final Due DUE = new Due();

    public static void main(String[] args) {
        constants();
        atFirst();
        numberOfNodes();
        numberOfSlots();
        numberOfPlaces();
        eachSizeByItself();
        DUE.end();
    }

    private static void constants() {
        DUE.is("NONE", DecreePool.NONE, -1);
        DUE.is("DOWN", DecreePool.DOWN, -2);
        DUE.is("OLD", DecreePool.OLD, -3);
        DUE.is("FULL", DecreePool.FULL, -4);
    }

    private static void atFirst() {
        DUE.of("All nodes are up, nothing is sent");
        int[][] sizes = {{1, 1, 5}, {2, 1, 6}, {3, 2, 32}, {4, 3, 63}, {5, 4, 64}};
        for (int[] size : sizes) {
            Run run = Run.of(size[0], size[1], size[2]);
            DUE.is(run, (1 << size[0]) - 1, "count", 6);
            DUE.is(run, 0, "count", 0);
            DUE.is(run, 0, "count", 4);
            DUE.is(run, 0, "count", 5);
            for (int m = 0; m < size[2]; m++) {
                DUE.is(run, -1, "message", m, 0);
            }
            for (int slot = 0; slot < size[1]; slot++) {
                DUE.is(run, 0, "chosen", slot);
                for (int node = 0; node < size[0]; node++) {
                    partsAtFirst(run, node, slot, size[0]);
                }
            }
        }
    }

    private static void partsAtFirst(Run run, int node, int slot, int nodes) {
        int[] acceptor = {-1, -1, 0};
        for (int what = 0; what < 3; what++) {
            DUE.is(run, acceptor[what], "acceptor", node, slot, what);
        }
        int[] proposer = {0, -1, 0, -1, 0};
        for (int what = 0; what < 5; what++) {
            DUE.is(run, proposer[what], "proposer", node, slot, what);
        }
        for (int of = 0; of < nodes; of++) {
            DUE.is(run, -1, "heard", node, slot, of);
        }
        DUE.is(run, 0, "learned", node, slot);
        DUE.is(run, 0, "prefix", node);
        DUE.is(run, 0, "applied", node);
    }

    private static void numberOfNodes() {
        DUE.of("N is n, 3 when that is not 1 .. 5");
        for (int n = 1; n <= 5; n++) {
            hasNodes(n, n);
        }
        for (int n : Due.outside(1, 5)) {
            hasNodes(n, 3);
        }
    }

    private static void hasNodes(int n, int want) {
        Run run = Run.of(n, 2, 32);
        DUE.is(run, want, "count", 1);
        DUE.is(run, (1 << want) - 1, "count", 6);
        DUE.is(run, want - 1, "crash", want - 1);
        DUE.is(run, -1, "crash", want);
        DUE.is(run, want, "prepare", 0, 0, 1, 1);
        DUE.is(run.prepare(0, 0, 1, 1), want, "count", 0);
    }

    private static void numberOfSlots() {
        DUE.of("S is slots, 2 when that is not 1 .. 4");
        for (int slots = 1; slots <= 4; slots++) {
            hasSlots(slots, slots);
        }
        for (int slots : Due.outside(1, 4)) {
            hasSlots(slots, 2);
        }
    }

    private static void hasSlots(int slots, int want) {
        Run run = Run.of(3, slots, 32);
        DUE.is(run, want, "count", 2);
        DUE.is(run, 0, "chosen", want - 1);
        DUE.is(run, -1, "chosen", want);
        DUE.is(run, 2, "prepare", 2, want - 1, 0, 1);
        DUE.is(run, -1, "prepare", 2, want, 0, 1);
    }

    private static void numberOfPlaces() {
        DUE.of("C is places, 32 when that is not 5 .. 64");
        for (int places = 5; places <= 64; places++) {
            hasPlaces(places, places);
        }
        for (int places : Due.outside(5, 64)) {
            hasPlaces(places, 32);
        }
    }

    private static void hasPlaces(int places, int want) {
        Run run = Run.of(1, 1, places);
        DUE.is(run, want, "count", 3);
        Run oneLeft = run.prepare(0, 0, 0, 1);
        for (int i = 2; i < want; i++) {
            oneLeft = oneLeft.duplicate(0);
        }
        DUE.is(oneLeft, want - 1, "duplicate", 0);
        DUE.is(oneLeft.duplicate(0), want, "count", 0);
        DUE.is(oneLeft.duplicate(0), DecreePool.FULL, "duplicate", 0);
        DUE.is(oneLeft.duplicate(0), 1, "message", want - 1, 0);
        DUE.is(oneLeft.duplicate(0), -1, "message", want, 0);
    }

    private static void eachSizeByItself() {
        DUE.of("N is n, .. S is slots, .. C is places, each when it is within its bounds");
        int[][] nodes = {{0, 3}, {1, 1}, {5, 5}, {6, 3}};
        int[][] slots = {{0, 2}, {1, 1}, {4, 4}, {5, 2}};
        int[][] places = {{4, 32}, {5, 5}, {64, 64}, {65, 32}};
        for (int[] n : nodes) {
            for (int[] s : slots) {
                for (int[] c : places) {
                    Run run = Run.of(n[0], s[0], c[0]);
                    DUE.is(run, n[1], "count", 1);
                    DUE.is(run, s[1], "count", 2);
                    DUE.is(run, c[1], "count", 3);
                }
            }
        }
    }
}
