/** Promise 4: sweep. */
public final class SweepTest {
    private static final Due DUE = new Due();

    public static void main(String[] args) {
        wrongCounts();
        upTo();
        leastPlaceFirst();
        passesOverWhatDoesNotFit();
        stopsWhenNothingFits();
        toNodesThatAreDown();
        DUE.end();
    }

    private static void wrongCounts() {
        DecreePool x = new DecreePool(3, 1, 8);
        x.prepare(0, 0, 0, 2);
        for (int k : new int[] {-1, 101, Integer.MIN_VALUE, Integer.MAX_VALUE}) {
            DUE.is("sweep(" + k + ")", x.sweep(k), -1);
        }
        DUE.is("sweep(0)", x.sweep(0), 0);
        DUE.is("count(4)", x.count(4), 0);
        DUE.is("message(0, 0)", x.message(0, 0), 1);
    }

    private static void upTo() {
        DecreePool x = new DecreePool(3, 1, 16);
        DUE.is("sweep(5) of nothing", x.sweep(5), 0);
        x.prepare(0, 0, 0, 2);
        DUE.is("sweep(1)", x.sweep(1), 1);
        DUE.is("count(4)", x.count(4), 1);
        DUE.is("sweep(4)", x.sweep(4), 4);
        DUE.is("count(4)", x.count(4), 5);
        DUE.is("sweep(100)", x.sweep(100), 13);
        DUE.is("count(4)", x.count(4), 18);
        DUE.is("count(0)", x.count(0), 0);
        DUE.is("sweep(100)", x.sweep(100), 0);
        DecreePool y = new DecreePool(5, 4, 64);
        y.prepare(0, 0, 0, 2);
        y.prepare(1, 1, 0, 2);
        y.prepare(2, 2, 0, 2);
        DUE.is("sweep(100)", y.sweep(100), 100);
        DUE.is("count(4)", y.count(4), 100);
    }

    private static void leastPlaceFirst() {
        DecreePool x = new DecreePool(3, 1, 16);
        x.prepare(0, 0, 0, 2);
        x.drop(0);
        DUE.is("sweep(1)", x.sweep(1), 1);
        DUE.is("acceptor(1, 0, 0)", x.acceptor(1, 0, 0), 0);
        DUE.is("acceptor(2, 0, 0)", x.acceptor(2, 0, 0), -1);
        DUE.is("message(0, 0): the promise goes to place 0", x.message(0, 0), 2);
        DUE.is("sweep(1): from the least place anew", x.sweep(1), 1);
        DUE.is("proposer(0, 0, 2)", x.proposer(0, 0, 2), 1);
        DUE.is("acceptor(2, 0, 0)", x.acceptor(2, 0, 0), -1);
    }

    private static void passesOverWhatDoesNotFit() {
        DecreePool x = new DecreePool(3, 1, 5);
        x.prepare(0, 0, 0, 7);
        for (int m : new int[] {0, 1, 0, 1}) {
            x.deliver(m);
        }
        DUE.is("deliver(0)", x.deliver(0), DecreePool.FULL);
        DUE.is("message(2, 0)", x.message(2, 0), 1);
        DUE.is("sweep(1)", x.sweep(1), 1);
        DUE.is("message(0, 0)", x.message(0, 0), 3);
        DUE.is("message(2, 0): the prepare was delivered", x.message(2, 0), 2);
        DUE.is("sweep(1)", x.sweep(1), 1);
        DUE.is("message(2, 0): the promise was", x.message(2, 0), -1);
        DUE.is("deliver(0)", x.deliver(0), 3);
    }

    private static void stopsWhenNothingFits() {
        DecreePool x = new DecreePool(3, 1, 5);
        x.prepare(0, 0, 0, 7);
        for (int m : new int[] {0, 1, 0, 1}) {
            x.deliver(m);
        }
        x.drop(2);
        x.duplicate(0);
        x.duplicate(1);
        DUE.is("count(0)", x.count(0), 5);
        DUE.is("sweep(100)", x.sweep(100), 0);
        DUE.is("count(0)", x.count(0), 5);
        DUE.is("count(4)", x.count(4), 4);
    }

    private static void toNodesThatAreDown() {
        DecreePool x = new DecreePool(3, 1, 16);
        x.prepare(0, 0, 0, 7);
        x.crash(1);
        x.crash(2);
        DUE.is("sweep(100): a delivery to a node that is down is one", x.sweep(100), 4);
        DUE.is("count(4)", x.count(4), 4);
        DUE.is("count(5)", x.count(5), 2);
    }
}
