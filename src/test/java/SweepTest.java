/** Promise 4: sweep. */
public final class SweepTest {
    private static final Due DUE = new Due();

    public static void main(String[] args) {
        anotherCount();
        noneAtAll();
        upTo();
        aHundred();
        leastPlaceFirst();
        lastPlace();
        passesOverWhatDoesNotFit();
        stopsWhenNothingFits();
        toNodesThatAreDown();
        DUE.end();
    }

    private static void anotherCount() {
        DUE.of("NONE, refused, for another k");
        for (int n = 1; n <= 5; n++) {
            for (int k : Due.outside(0, 100)) {
                DUE.unchanged(Run.busy(n, 2, 20), -1, "sweep", k);
            }
        }
    }

    private static void noneAtAll() {
        DUE.of("Up to k times (0 .. 100): 0 times");
        DUE.unchanged(Run.busy(3, 2, 20), 0, "sweep", 0);
        DUE.of("Up to k times: of nothing");
        DUE.unchanged(Run.of(3, 2, 20), 0, "sweep", 0);
        DUE.unchanged(Run.of(3, 2, 20), 0, "sweep", 1);
        DUE.unchanged(Run.of(3, 2, 20), 0, "sweep", 100);
    }

    private static void upTo() {
        DUE.of("Up to k times .. How many were");
        // A ballot of three nodes without loss: 3 prepares, 3 promises, 3 accepts, 9 accepteds.
        Run run = Run.of(3, 1, 16).prepare(0, 0, 0, 2);
        for (int k = 0; k <= 100; k++) {
            DUE.is(run, Math.min(k, 18), "sweep", k);
            DUE.is(run.sweep(k), Math.min(k, 18), "count", 4);
        }
        DUE.is(run.sweep(17), 1, "count", 0);
        DUE.is(run.sweep(18), 0, "count", 0);
        for (int k = 0; k < 18; k++) {
            DUE.alike(run.sweep(k + 1), run.sweep(k).sweep(1));
        }
        Run told = run.sweep(100).tell(1, 0);
        DUE.is(told, 2, "sweep", 2);
        DUE.is(told, 3, "sweep", 3);
        DUE.is(told, 3, "sweep", 4);
    }

    private static void aHundred() {
        DUE.of("Up to k times (0 .. 100): 100 times");
        // Three ballots of five nodes, of 40 deliveries, and twice 38: in the later slots the
        // accepts stand before the last two prepares, which then bring no promise.
        Run run = Run.of(5, 4, 64).prepare(0, 0, 0, 2).prepare(1, 1, 0, 2).prepare(2, 2, 0, 2);
        DUE.is(run, 99, "sweep", 99);
        DUE.is(run, 100, "sweep", 100);
        DUE.is(run, -1, "sweep", 101);
        DUE.is(run.sweep(100), 100, "count", 4);
        DUE.is(run.sweep(100), 16, "sweep", 100);
        DUE.is(run.sweep(100).sweep(16), 0, "count", 0);
    }

    private static void leastPlaceFirst() {
        DUE.of("the message in the least place that can be delivered is");
        Run run = Run.of(3, 1, 16).prepare(0, 0, 0, 2);
        DUE.alike(run.sweep(1), run.deliver(0));
        DUE.alike(run.drop(0).sweep(1), run.drop(0).deliver(1));
        DUE.alike(run.drop(0, 1).sweep(1), run.drop(0, 1).deliver(2));
        // The promise of node 1 goes to place 0, and so is the next one.
        DUE.alike(run.drop(0).sweep(2), run.drop(0).deliver(1, 0));
        DUE.alike(run.drop(0).sweep(3), run.drop(0).deliver(1, 0, 2));
    }

    private static void lastPlace() {
        DUE.of("the message in the least place: the last place");
        for (int places : new int[] {5, 32, 64}) {
            Run run = Run.of(1, 1, places).prepare(0, 0, 0, 2).leaving(0, 0);
            for (int m = 0; m < places - 1; m++) {
                run = run.drop(m);
            }
            DUE.is(run, 1, "sweep", 1);
            DUE.alike(run.sweep(1), run.deliver(places - 1));
        }
    }

    // Two accepts at places 0 and 1, one at 3, and a prepare at 2; one place is empty.
    private static Run acceptsThatDoNotFit() {
        return Run.of(3, 1, 5).prepare(0, 0, 0, 7).deliver(0, 1, 0, 1);
    }

    private static void passesOverWhatDoesNotFit() {
        DUE.of("the least place that can be delivered: FULL is passed over");
        Run run = acceptsThatDoNotFit();
        DUE.is(run, DecreePool.FULL, "deliver", 0);
        DUE.is(run, DecreePool.FULL, "deliver", 1);
        DUE.is(run, 1, "sweep", 1);
        DUE.alike(run.sweep(1), run.deliver(2));
        DUE.alike(run.sweep(2), run.deliver(2, 2));
        // Two places are empty then, and with its own there is room behind the accept in place 0.
        DUE.alike(run.sweep(3), run.deliver(2, 2, 0));
    }

    private static void stopsWhenNothingFits() {
        DUE.of("Up to k times: until none can be delivered");
        Run run = acceptsThatDoNotFit().drop(2).leaving(0, 0);
        for (int m = 0; m < 5; m++) {
            DUE.unchanged(run, DecreePool.FULL, "deliver", m);
        }
        DUE.unchanged(run, 0, "sweep", 1);
        DUE.unchanged(run, 0, "sweep", 100);
        Run oneEmpty = run.drop(4);
        DUE.unchanged(oneEmpty, 0, "sweep", 100);
        Run twoEmpty = oneEmpty.drop(3);
        DUE.is(twoEmpty, 1, "sweep", 1);
    }

    private static void toNodesThatAreDown() {
        DUE.of("How many were: to nodes that were down, too");
        Run run = Run.of(3, 1, 16).prepare(0, 0, 0, 7).crash(0, 1, 2);
        DUE.is(run, 2, "sweep", 2);
        DUE.is(run, 3, "sweep", 100);
        DUE.is(run.sweep(100), 0, "count", 0);
        DUE.is(run.sweep(100), 3, "count", 4);
        DUE.is(run.sweep(100), 3, "count", 5);
        Run full = acceptsThatDoNotFit().drop(2).leaving(0, 0).crash(1);
        DUE.is(full, DecreePool.FULL, "deliver", 0);
        DUE.alike(full.sweep(1), full.deliver(1));
    }
}
