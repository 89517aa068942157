/** Promise 3: deliver, and what the terms say of each kind of message. */
public final class DeliverTest {
    private static final Due DUE = new Due();

    public static void main(String[] args) {
        wrongPlaces();
        aPrepare();
        aPrepareThatIsNotGreater();
        aPromise();
        promisesThatDoNotCount();
        theBestOne();
        anAccept();
        anAccepted();
        heardOnlyWhenGreater();
        learnedOnce();
        receiverDown();
        fullForAPromise();
        promisesWithoutMajorityFit();
        fullForAnAccept();
        evenNodes();
        oneNode();
        DUE.end();
    }

    private static void fields(DecreePool x, int m, int... want) {
        for (int what = 0; what < 7; what++) {
            DUE.is("message(" + m + ", " + what + ")", x.message(m, what), want[what]);
        }
    }

    private static void wrongPlaces() {
        DecreePool x = new DecreePool(3, 1, 6);
        x.prepare(0, 0, 0, 4);
        for (int m : new int[] {-1, 3, 5, 6, Integer.MIN_VALUE, Integer.MAX_VALUE}) {
            DUE.is("deliver(" + m + ")", x.deliver(m), -1);
        }
        DUE.is("count(0)", x.count(0), 3);
        DUE.is("count(4)", x.count(4), 0);
    }

    private static void aPrepare() {
        DecreePool x = new DecreePool(3, 2, 8);
        x.prepare(2, 1, 3, 4);
        DUE.is("deliver(1)", x.deliver(1), 1);
        fields(x, 1, 2, 1, 2, 1, 11, 0, -1);
        DUE.is("acceptor(1, 1, 0)", x.acceptor(1, 1, 0), 11);
        DUE.is("acceptor(1, 0, 0)", x.acceptor(1, 0, 0), -1);
        DUE.is("acceptor(0, 1, 0)", x.acceptor(0, 1, 0), -1);
        DUE.is("acceptor(1, 1, 1)", x.acceptor(1, 1, 1), -1);
        Due.decide(x, 2, 1, 4, 4);
        x.prepare(0, 1, 9, 6);
        x.deliver(0);
        fields(x, 0, 2, 0, 0, 1, 27, 4, 14);
    }

    private static void aPrepareThatIsNotGreater() {
        DecreePool x = new DecreePool(3, 1, 16);
        x.prepare(1, 0, 0, 4);
        x.prepare(0, 0, 0, 5);
        DUE.is("duplicate(2)", x.duplicate(2), 6);
        DUE.is("deliver(2)", x.deliver(2), 1);
        DUE.is("count(0)", x.count(0), 7);
        DUE.is("deliver(6): the same ballot", x.deliver(6), 1);
        DUE.is("count(0)", x.count(0), 6);
        DUE.is("deliver(5): a lesser ballot", x.deliver(5), 1);
        DUE.is("count(0)", x.count(0), 5);
        DUE.is("acceptor(2, 0, 0)", x.acceptor(2, 0, 0), 1);
    }

    private static void aPromise() {
        DecreePool x = new DecreePool(3, 1, 16);
        x.prepare(1, 0, 2, 12);
        x.deliver(0);
        x.deliver(1);
        x.deliver(2);
        DUE.is("deliver(2)", x.deliver(2), 2);
        DUE.is("proposer(1, 0, 0)", x.proposer(1, 0, 0), 1);
        DUE.is("proposer(1, 0, 2)", x.proposer(1, 0, 2), 1);
        DUE.is("count(0)", x.count(0), 2);
        DUE.is("deliver(0)", x.deliver(0), 2);
        DUE.is("proposer(1, 0, 0)", x.proposer(1, 0, 0), 2);
        DUE.is("proposer(1, 0, 4)", x.proposer(1, 0, 4), 12);
        fields(x, 0, 3, 1, 0, 0, 7, 12, -1);
        fields(x, 2, 3, 1, 1, 0, 7, 12, -1);
        fields(x, 3, 3, 1, 2, 0, 7, 12, -1);
        DUE.is("deliver(1): a third promise", x.deliver(1), 2);
        DUE.is("proposer(1, 0, 2)", x.proposer(1, 0, 2), 2);
        DUE.is("count(0)", x.count(0), 3);
    }

    private static void promisesThatDoNotCount() {
        DecreePool x = new DecreePool(3, 1, 16);
        x.prepare(0, 0, 0, 12);
        x.deliver(1);
        x.duplicate(1);
        x.duplicate(1);
        x.deliver(1);
        DUE.is("deliver(3): the same sender again", x.deliver(3), 2);
        DUE.is("proposer(0, 0, 2)", x.proposer(0, 0, 2), 1);
        DUE.is("proposer(0, 0, 0)", x.proposer(0, 0, 0), 1);
        x.prepare(0, 0, 1, 12);
        DUE.is("deliver(4): of an older ballot", x.deliver(4), 2);
        DUE.is("proposer(0, 0, 2)", x.proposer(0, 0, 2), 0);
        x.deliver(1);
        DUE.is("message(1, 0)", x.message(1, 0), 2);
        x.crash(0);
        x.restart(0);
        DUE.is("deliver(1): in phase 0", x.deliver(1), 2);
        DUE.is("proposer(0, 0, 0)", x.proposer(0, 0, 0), 0);
        DUE.is("proposer(0, 0, 2)", x.proposer(0, 0, 2), 0);
    }

    // Node 1 has accepted 20 with ballot 0, node 2 has accepted 30 with ballot 6.
    private static DecreePool twoAccepted() {
        DecreePool x = new DecreePool(5, 1, 64);
        x.prepare(0, 0, 0, 20);
        for (int m = 0; m < 3; m++) {
            x.deliver(m);
        }
        for (int m = 0; m < 3; m++) {
            x.deliver(m);
        }
        deliverTo(x, 3, 1);
        empty(x);
        x.prepare(1, 0, 1, 30);
        for (int m = 2; m < 5; m++) {
            x.deliver(m);
        }
        for (int m = 2; m < 5; m++) {
            x.deliver(m);
        }
        deliverTo(x, 3, 2);
        empty(x);
        DUE.is("acceptor(1, 0, 1)", x.acceptor(1, 0, 1), 0);
        DUE.is("acceptor(1, 0, 2)", x.acceptor(1, 0, 2), 20);
        DUE.is("acceptor(2, 0, 1)", x.acceptor(2, 0, 1), 6);
        DUE.is("acceptor(2, 0, 2)", x.acceptor(2, 0, 2), 30);
        return x;
    }

    private static void deliverTo(DecreePool x, int kind, int receiver) {
        for (int m = 0; m < x.count(3); m++) {
            if (x.message(m, 0) == kind && x.message(m, 2) == receiver) {
                x.deliver(m);
                return;
            }
        }
        DUE.is("a message of kind " + kind + " to " + receiver, 0, 1);
    }

    private static void empty(DecreePool x) {
        for (int m = 0; m < x.count(3); m++) {
            x.drop(m);
        }
    }

    private static void theBestOne() {
        int[][] orders = {{1, 2, 3}, {2, 1, 3}, {3, 2, 1}, {2, 3, 1}};
        for (int[] order : orders) {
            DecreePool x = twoAccepted();
            x.prepare(4, 0, 2, 40);
            for (int node : order) {
                DUE.is("a prepare", x.deliver(node), 1);
            }
            int best = -1;
            for (int node : order) {
                DUE.is("a promise", x.deliver(node), 2);
                best = Math.max(best, node == 1 ? 0 : node == 2 ? 6 : -1);
                DUE.is("proposer(4, 0, 3)", x.proposer(4, 0, 3), best);
            }
            DUE.is("proposer(4, 0, 0)", x.proposer(4, 0, 0), 2);
            DUE.is("proposer(4, 0, 4)", x.proposer(4, 0, 4), 30);
            DUE.is("message(6, 5)", x.message(6, 5), 30);
        }
        DecreePool y = twoAccepted();
        y.prepare(4, 0, 2, 40);
        for (int node : new int[] {0, 3, 4, 0, 3, 4}) {
            y.deliver(node);
        }
        DUE.is("proposer(4, 0, 3): none told", y.proposer(4, 0, 3), -1);
        DUE.is("proposer(4, 0, 4): the wish", y.proposer(4, 0, 4), 40);
    }

    private static void anAccept() {
        DecreePool x = new DecreePool(3, 1, 32);
        x.prepare(0, 0, 1, 8);
        x.deliver(0);
        x.deliver(1);
        x.deliver(0);
        x.deliver(1);
        // The accepts of ballot 3 are in places 0, 1 and 3; node 2 has promised nothing yet.
        DUE.is("deliver(3): more than what was promised", x.deliver(3), 3);
        DUE.is("acceptor(2, 0, 0)", x.acceptor(2, 0, 0), 3);
        DUE.is("acceptor(2, 0, 1)", x.acceptor(2, 0, 1), 3);
        DUE.is("acceptor(2, 0, 2)", x.acceptor(2, 0, 2), 8);
        fields(x, 3, 4, 2, 0, 0, 3, 8, -1);
        fields(x, 4, 4, 2, 1, 0, 3, 8, -1);
        fields(x, 5, 4, 2, 2, 0, 3, 8, -1);
        DUE.is("deliver(0): just what was promised", x.deliver(0), 3);
        DUE.is("acceptor(0, 0, 1)", x.acceptor(0, 0, 1), 3);
        x.prepare(1, 0, 1, 9);
        deliverTo(x, 1, 1);
        DUE.is("acceptor(1, 0, 0)", x.acceptor(1, 0, 0), 4);
        int before = x.count(0);
        DUE.is("message(1, 0)", x.message(1, 0), 3);
        DUE.is("deliver(1): less than what was promised", x.deliver(1), 3);
        DUE.is("acceptor(1, 0, 0)", x.acceptor(1, 0, 0), 4);
        DUE.is("acceptor(1, 0, 1)", x.acceptor(1, 0, 1), -1);
        DUE.is("acceptor(1, 0, 2)", x.acceptor(1, 0, 2), 0);
        DUE.is("count(0)", x.count(0), before - 1);
        sameAcceptAgain();
    }

    private static void sameAcceptAgain() {
        DecreePool x = new DecreePool(1, 1, 8);
        x.prepare(0, 0, 0, 5);
        x.sweep(2);
        x.duplicate(0);
        DUE.is("deliver(0)", x.deliver(0), 3);
        DUE.is("deliver(1): the same accept again", x.deliver(1), 3);
        DUE.is("count(0): both were answered", x.count(0), 2);
        DUE.is("message(1, 0)", x.message(1, 0), 4);
    }

    private static void anAccepted() {
        DecreePool x = new DecreePool(5, 1, 64);
        x.prepare(0, 0, 0, 8);
        for (int kind = 1; kind <= 3; kind++) {
            for (int m = 0; m < 64; m++) {
                if (x.message(m, 0) == kind) {
                    x.deliver(m);
                }
            }
        }
        int heard = 0;
        for (int m = 0; m < 64; m++) {
            if (x.message(m, 0) == 4 && x.message(m, 2) == 3) {
                int sender = x.message(m, 1);
                DUE.is("heard(3, 0, sender)", x.heard(3, 0, sender), -1);
                DUE.is("learned(3, 0)", x.learned(3, 0), heard >= 3 ? 8 : 0);
                DUE.is("deliver", x.deliver(m), 4);
                heard++;
                DUE.is("heard(3, 0, sender)", x.heard(3, 0, sender), 0);
                DUE.is("learned(3, 0)", x.learned(3, 0), heard >= 3 ? 8 : 0);
            }
        }
        DUE.is("accepted messages to node 3", heard, 5);
        DUE.is("learned(2, 0)", x.learned(2, 0), 0);
    }

    private static void heardOnlyWhenGreater() {
        DecreePool x = new DecreePool(1, 1, 8);
        x.prepare(0, 0, 0, 5);
        x.sweep(3);
        x.prepare(0, 0, 1, 6);
        DUE.is("message(0, 0)", x.message(0, 0), 4);
        DUE.is("deliver(1)", x.deliver(1), 1);
        DUE.is("deliver(1)", x.deliver(1), 2);
        DUE.is("deliver(1)", x.deliver(1), 3);
        DUE.is("message(1, 5)", x.message(1, 5), 5);
        DUE.is("deliver(1)", x.deliver(1), 4);
        DUE.is("heard(0, 0, 0)", x.heard(0, 0, 0), 1);
        DUE.is("deliver(0): a lesser ballot", x.deliver(0), 4);
        DUE.is("heard(0, 0, 0)", x.heard(0, 0, 0), 1);
    }

    // Ballots that two senders tell apart make no majority, even if their values are the same.
    private static void learnedOnce() {
        DecreePool x = new DecreePool(3, 1, 64);
        x.prepare(0, 0, 0, 7);
        x.sweep(100);
        x.crash(2);
        x.restart(2);
        x.prepare(1, 0, 1, 9);
        x.duplicate(0);
        for (int kind = 1; kind <= 3; kind++) {
            for (int m = 0; m < 64; m++) {
                if (x.message(m, 0) == kind) {
                    x.deliver(m);
                }
            }
        }
        for (int m = 0; m < 64; m++) {
            if (x.message(m, 2) == 2 && x.message(m, 1) == 0) {
                x.duplicate(m);
                break;
            }
        }
        int delivered = 0;
        for (int m = 0; m < 64 && delivered < 2; m++) {
            if (x.message(m, 2) == 2 && x.message(m, 1) == 0) {
                x.deliver(m);
                delivered++;
                DUE.is("learned(2, 0): one sender is no majority", x.learned(2, 0), 0);
            }
        }
        DUE.is("delivered", delivered, 2);
        x.sweep(100);
        DUE.is("learned(2, 0)", x.learned(2, 0), 7);
        DUE.is("heard(2, 0, 1)", x.heard(2, 0, 1), 4);
    }

    private static void receiverDown() {
        DecreePool x = new DecreePool(3, 1, 5);
        x.prepare(0, 0, 0, 7);
        x.crash(1);
        DUE.is("deliver(1)", x.deliver(1), 0);
        DUE.is("message(1, 0)", x.message(1, 0), -1);
        DUE.is("acceptor(1, 0, 0)", x.acceptor(1, 0, 0), -1);
        DUE.is("count(4)", x.count(4), 1);
        DUE.is("count(5)", x.count(5), 1);
        x.crash(0);
        DUE.is("deliver(2): the sender is down", x.deliver(2), 1);
        DUE.is("message(1, 0)", x.message(1, 0), 2);
        DUE.is("acceptor(2, 0, 0)", x.acceptor(2, 0, 0), 0);
    }

    private static void fullForAPromise() {
        DecreePool x = new DecreePool(3, 1, 5);
        x.prepare(0, 0, 0, 7);
        x.deliver(0);
        x.deliver(1);
        x.deliver(0);
        x.duplicate(1);
        x.duplicate(1);
        DUE.is("count(0)", x.count(0), 4);
        DUE.is("deliver(1): 1 place and its own for 3", x.deliver(1), DecreePool.FULL);
        DUE.is("count(0)", x.count(0), 4);
        DUE.is("count(4)", x.count(4), 3);
        DUE.is("message(1, 0)", x.message(1, 0), 2);
        DUE.is("proposer(0, 0, 0)", x.proposer(0, 0, 0), 1);
        DUE.is("proposer(0, 0, 2)", x.proposer(0, 0, 2), 1);
        x.crash(0);
        x.duplicate(2);
        DUE.is("count(0)", x.count(0), 5);
        DUE.is("deliver(0): to a node that is down", x.deliver(0), 0);
        x.restart(0);
        DUE.is("deliver(1): in phase 0 it sends nothing", x.deliver(1), 2);
        fullForAPromiseAtTheEdge();
    }

    private static void fullForAPromiseAtTheEdge() {
        DecreePool x = new DecreePool(3, 1, 5);
        x.prepare(0, 0, 0, 7);
        x.deliver(0);
        x.deliver(1);
        x.deliver(0);
        x.duplicate(2);
        DUE.is("count(0)", x.count(0), 3);
        DUE.is("deliver(1): 2 places and its own for 3", x.deliver(1), 2);
        DUE.is("count(0)", x.count(0), 5);
        DUE.is("deliver(2): a prepare always fits", x.deliver(2), 1);
        DUE.is("deliver(2): the third promise sends nothing", x.deliver(2), 2);
    }

    private static void promisesWithoutMajorityFit() {
        DecreePool x = new DecreePool(3, 1, 5);
        x.prepare(0, 0, 0, 7);
        x.deliver(0);
        x.duplicate(0);
        x.duplicate(0);
        DUE.is("count(0)", x.count(0), 5);
        DUE.is("deliver(0): the first promise", x.deliver(0), 2);
        DUE.is("deliver(3): its sender again", x.deliver(3), 2);
        DUE.is("proposer(0, 0, 2)", x.proposer(0, 0, 2), 1);
        x.duplicate(4);
        x.duplicate(4);
        DUE.is("deliver(1)", x.deliver(1), 1);
        DUE.is("count(0)", x.count(0), 5);
        DUE.is("deliver(1): the one that makes a majority", x.deliver(1), DecreePool.FULL);
    }

    private static void fullForAnAccept() {
        DecreePool x = new DecreePool(3, 1, 5);
        x.prepare(0, 0, 0, 7);
        x.deliver(0);
        x.deliver(1);
        x.deliver(0);
        x.deliver(1);
        DUE.is("count(0)", x.count(0), 4);
        DUE.is("message(0, 0)", x.message(0, 0), 3);
        DUE.is("deliver(0)", x.deliver(0), DecreePool.FULL);
        DUE.is("acceptor(0, 0, 1)", x.acceptor(0, 0, 1), -1);
        DUE.is("count(0)", x.count(0), 4);
        DUE.is("drop(2)", x.drop(2), 1);
        DUE.is("deliver(0)", x.deliver(0), 3);
        DUE.is("acceptor(0, 0, 1)", x.acceptor(0, 0, 1), 0);
        DUE.is("count(0)", x.count(0), 5);
        refusedAcceptFits();
    }

    private static void refusedAcceptFits() {
        DecreePool x = new DecreePool(3, 1, 7);
        x.prepare(0, 0, 0, 7);
        for (int m : new int[] {0, 1, 0, 1, 2, 2}) {
            x.deliver(m);
        }
        x.prepare(1, 0, 0, 8);
        DUE.is("count(0)", x.count(0), 6);
        DUE.is("deliver(2): a prepare to node 0", x.deliver(2), 1);
        DUE.is("message(0, 2)", x.message(0, 2), 0);
        DUE.is("duplicate(0)", x.duplicate(0), 6);
        DUE.is("deliver(0): no place, but nothing to send", x.deliver(0), 3);
        DUE.is("deliver(1): 1 place and its own for 3", x.deliver(1), DecreePool.FULL);
    }

    private static void evenNodes() {
        DecreePool x = new DecreePool(4, 1, 32);
        x.prepare(0, 0, 0, 7);
        for (int m : new int[] {0, 1, 2, 0, 1}) {
            x.deliver(m);
        }
        DUE.is("proposer(0, 0, 0): half is no majority", x.proposer(0, 0, 0), 1);
        x.deliver(2);
        DUE.is("proposer(0, 0, 0)", x.proposer(0, 0, 0), 2);
    }

    private static void oneNode() {
        DecreePool x = new DecreePool(1, 1, 5);
        x.prepare(0, 0, 1000, 7);
        for (int kind = 1; kind <= 4; kind++) {
            DUE.is("deliver(0)", x.deliver(0), kind);
        }
        DUE.is("deliver(0)", x.deliver(0), -1);
        DUE.is("learned(0, 0)", x.learned(0, 0), 7);
        DUE.is("heard(0, 0, 0)", x.heard(0, 0, 0), 1000);
    }
}
