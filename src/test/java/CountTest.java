/** Promise 18: count. */
public final class CountTest {
    private static final Due DUE = new Due();

    public static void main(String[] args) {
        eachNumber();
        deliveriesToNodesThatAreDown();
        lostMessages();
        refusedCallsDoNotCount();
        upAsBits();
        anotherWhat();
        DUE.end();
    }

    private static void counts(Run run, int... want) {
        for (int what = 0; what < 7; what++) {
            DUE.unchanged(run, want[what], "count", what);
        }
    }

    private static void eachNumber() {
        DUE.of("How many messages there are, nodes, slots, places, deliveries, lost, up");
        Run run = Run.of(4, 3, 20);
        counts(run, 0, 4, 3, 20, 0, 0, 15);
        run = run.prepare(0, 0, 0, 6);
        counts(run, 4, 4, 3, 20, 0, 0, 15);
        run = run.deliver(0);
        counts(run, 4, 4, 3, 20, 1, 0, 15);
        run = run.deliver(0);
        counts(run, 3, 4, 3, 20, 2, 0, 15);
        run = run.duplicate(1);
        counts(run, 4, 4, 3, 20, 2, 0, 15);
        run = run.drop(0);
        counts(run, 3, 4, 3, 20, 2, 1, 15);
        run = run.crash(2).deliver(2);
        counts(run, 2, 4, 3, 20, 3, 2, 11);
        run = run.crash(0).sweep(100);
        counts(run, 0, 4, 3, 20, 7, 4, 10);
        run = run.restart(2);
        counts(run, 0, 4, 3, 20, 7, 4, 14);
    }

    private static void deliveriesToNodesThatAreDown() {
        DUE.of("deliveries that were made, to nodes that were down, too (4)");
        Run run = Run.of(3, 1, 16).prepare(0, 0, 0, 6).crash(1);
        counts(run, 3, 3, 1, 16, 0, 0, 5);
        counts(run.deliver(0), 3, 3, 1, 16, 1, 0, 5);
        counts(run.deliver(1), 2, 3, 1, 16, 1, 1, 5);
    }

    private static void lostMessages() {
        DUE.of("messages lost by drop() or at nodes that were down (5)");
        Run run = Run.of(3, 1, 16).prepare(0, 0, 0, 6).deliver(0, 0);
        counts(run, 2, 3, 1, 16, 2, 0, 7);
        // A message that does nothing at a node that is up is not lost.
        Run late = run.crash(0).restart(0).deliver(1, 0);
        counts(late, 1, 3, 1, 16, 4, 0, 7);
        counts(run.drop(1), 1, 3, 1, 16, 2, 1, 7);
        counts(run.crash(1).drop(1), 1, 3, 1, 16, 2, 1, 5);
        counts(run.crash(1).sweep(1), 1, 3, 1, 16, 3, 1, 5);
    }

    private static void refusedCallsDoNotCount() {
        DUE.of("Where a call is refused, nothing changes: no count");
        Run full = Run.of(3, 1, 5).elect(0, 0, 0, 7).leaving(0, 0);
        counts(full, 5, 3, 1, 5, 4, 1, 7);
        Run refused = full.deliver(0, 1, 5, -1).drop(5, -1).duplicate(0).sweep(101).sweep(-1)
                .sweep(100).prepare(1, 0, 0, 8).crash(3).restart(0).tell(0, 0);
        DUE.alike(refused, full);
    }

    private static void upAsBits() {
        DUE.of("nodes that are up, as bits (6)");
        for (int n = 1; n <= 5; n++) {
            for (int bits = 0; bits < 1 << n; bits++) {
                Run run = Run.of(n, 1, 8);
                for (int node = 0; node < n; node++) {
                    run = (bits >> node & 1) == 1 ? run : run.crash(node);
                }
                DUE.is(run, bits, "count", 6);
            }
        }
    }

    private static void anotherWhat() {
        DUE.of("NONE for another what");
        Run run = Run.busy(3, 2, 20);
        DUE.is(run, 5, "count", 0);
        DUE.is(run, 7, "count", 6);
        for (int what : Due.outside(0, 6)) {
            DUE.unchanged(run, -1, "count", what);
        }
    }
}
