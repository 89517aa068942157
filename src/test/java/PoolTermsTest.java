/** Terms: where in the pool that stands which is sent, and the last call that is promised. */
public final class PoolTermsTest {
    private static final Due DUE = new Due();

    public static void main(String[] args) {
        leastEmptyPlace();
        ownPlaceIsEmpty();
        toAllInOrder();
        lastPlaces();
        lastCall();
        DUE.end();
    }

    // The receivers of the messages in the first places, -1 where there is none.
    private static void receivers(Run run, int... want) {
        for (int m = 0; m < want.length; m++) {
            DUE.is(run, want[m], "message", m, 2);
        }
    }

    private static void leastEmptyPlace() {
        DUE.of("what is sent goes to the empty place with the least number");
        // Prepares to nodes 0 .. 4 in places 0 .. 4: a promise goes to the sender, node 4.
        Run run = Run.of(5, 1, 16).prepare(4, 0, 0, 6);
        receivers(run.drop(0).deliver(3), 4, 1, 2, -1, 4, -1);
        receivers(run.drop(2).deliver(3), 0, 1, 4, -1, 4, -1);
        receivers(run.drop(0, 2).deliver(3), 4, 1, -1, -1, 4, -1);
        receivers(run.drop(0, 2).deliver(3, 4), 4, 1, 4, -1, -1, -1);
        receivers(run.drop(4).deliver(3), 0, 1, 2, 4, -1, -1);
        receivers(run.drop(0).duplicate(3), 3, 1, 2, 3, 4, -1);
        receivers(run.duplicate(3), 0, 1, 2, 3, 4, 3, -1);
    }

    private static void ownPlaceIsEmpty() {
        DUE.of("To deliver a message is to take it out of the pool: its place is empty then");
        Run run = Run.of(3, 1, 8).prepare(2, 0, 0, 6);
        for (int m = 0; m < 3; m++) {
            DUE.is(run.deliver(m), 2, "message", m, 0);
            DUE.is(run.deliver(m), 3, "count", 0);
            DUE.is(run.deliver(m), -1, "message", 3, 0);
        }
        receivers(Run.of(3, 1, 8).elect(2, 0, 0, 6).deliver(1), 0, 0, 2, 1, 2, -1);
    }

    private static void toAllInOrder() {
        DUE.of("what goes to all nodes goes to node 0, 1, .. in this order, the sender too");
        for (int sender = 0; sender < 3; sender++) {
            Run prepares = Run.of(3, 2, 8).prepare(sender, 1, 0, 6);
            receivers(prepares, 0, 1, 2, -1);
            receivers(prepares.drop(1).prepare(sender, 0, 0, 6), 0, 0, 2, 1, 2, -1);
            Run accepts = Run.of(3, 1, 16).prepare(sender, 0, 0, 6).deliver(0, 2, 0, 2);
            receivers(accepts, 0, 1, 1, 2, -1);
            Run accepteds = Run.of(3, 1, 16).elect(sender, 0, 0, 6).deliver(2);
            receivers(accepteds, 0, 1, 0, 1, 2, -1);
            Run tolds = Run.of(3, 2, 16).decide(0, 0, 0, 6).prepare(1, 1, 0, 7).drop(0, 2)
                    .tell(sender, 0);
            receivers(tolds, 0, 1, 1, 2, -1);
        }
    }

    private static void lastPlaces() {
        DUE.of("THE POOL has C places from 0 on: what goes to all ends in the last one");
        for (int n = 1; n <= 5; n++) {
            for (int places : new int[] {10, 32, 64}) {
                Run run = Run.of(n, 2, places).prepare(0, 0, 0, 6).leaving(n, 0)
                        .prepare(n - 1, 1, 0, 8);
                for (int node = 0; node < n; node++) {
                    DUE.is(run, node, "message", places - n + node, 2);
                    DUE.is(run, 1, "message", places - n + node, 3);
                }
                DUE.is(run, 0, "message", places - n - 1, 3);
                DUE.is(run, -1, "message", places, 2);
            }
        }
    }

    private static void lastCall() {
        DUE.of("An object is used for at most 512 calls after it has been made");
        // Each ballot of five nodes without loss has 40 deliveries.
        Run run = Run.of(5, 4, 64);
        for (int i = 0; i < 255; i++) {
            run = run.prepare(i % 5, i % 4, i, 7).sweep(100);
        }
        DUE.is(run.prepare(0, 0, 1000, 7), 40, "sweep", 100);
        DUE.is(run.sweep(1), 10200, "count", 4);
        DUE.is(run.sweep(1), 4, "prefix", 3);
        DUE.is(run.sweep(1), 1275, "prepare", 0, 0, 255, 7);
    }
}
