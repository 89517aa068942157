/** Promise 3: deliver. What a delivery does is tested in DeliveryTermsTest. */
public final class DeliverTest {
    private static final int FULL = DecreePool.FULL;
    private static final Due DUE = new Due();

    public static void main(String[] args) {
        itsKind();
        PlaceEdges edges = new PlaceEdges(DUE, "deliver");
        edges.noSuchPlace();
        edges.noMessageInIt();
        receiverDown();
        fullForAccepts();
        fullForAccepteds();
        oneAnswerFitsAFullPool();
        noAnswerFitsAFullPool();
        receiverDownFitsAFullPool();
        DUE.end();
    }

    // A place with a message of each kind, which goes to node 1, at the index of its kind.
    private static Run[] oneOfEachKind() {
        Run prepared = Run.of(3, 1, 16).prepare(1, 0, 1, 6);
        Run accepts = prepared.deliver(0, 1, 0);
        return new Run[] {
            null, prepared.drop(0, 2), prepared.deliver(0).drop(1, 2),
            accepts.deliver(1).drop(2, 3), accepts.deliver(1, 0).drop(0, 1, 2, 3),
            Run.of(3, 1, 16).decide(0, 0, 0, 6).tell(2, 0),
        };
    }

    private static int placeOf(Run run, int kind) {
        for (int m = 0; m < 16; m++) {
            if (run.model().message(m, 0) == kind && run.model().message(m, 2) == 1) {
                return m;
            }
        }
        throw new IllegalStateException("no message of kind " + kind + " behind " + run);
    }

    private static void itsKind() {
        DUE.of("The message in a place is delivered: its kind");
        Run[] runs = oneOfEachKind();
        for (int kind = 1; kind <= 5; kind++) {
            DUE.is(runs[kind], kind, "deliver", placeOf(runs[kind], kind));
        }
    }

    private static void receiverDown() {
        DUE.of("0 when the receiver is down; if its receiver is down, that is all");
        Run[] runs = oneOfEachKind();
        for (int kind = 1; kind <= 5; kind++) {
            Run down = runs[kind].crash(1);
            int m = placeOf(down, kind);
            DUE.is(down, 0, "deliver", m);
            DUE.alikeButDeliveries(down.deliver(m), down.drop(m));
            DUE.is(down.deliver(m), down.answer(new Call("count", 4)) + 1, "count", 4);
            DUE.is(down.restart(1), kind, "deliver", m);
        }
        DUE.of("0 when the receiver is down, and not when the sender is");
        Run senderDown = Run.of(3, 1, 16).prepare(1, 0, 1, 6).crash(1);
        DUE.is(senderDown, 1, "deliver", 0);
        DUE.is(senderDown, 0, "deliver", 1);
        DUE.is(senderDown, 1, "deliver", 2);
        DUE.is(senderDown.deliver(2), 2, "message", 2, 0);
    }

    // The places of the promises are those of their senders; the last one makes the majority.
    private static Run lacksOnePromise(int n, int places, int node, int slot) {
        Run run = Run.of(n, 2, places).prepare(node, slot, 2, 7);
        for (int i = 0; i < Run.majority(n); i++) {
            run = run.deliver(i);
        }
        for (int i = 0; i < Run.majority(n) - 1; i++) {
            run = run.deliver(i);
        }
        return run;
    }

    private static void fullForAccepts() {
        DUE.of("more accepts would be sent than places are empty (with the message's own): FULL");
        for (int n = 2; n <= 5; n++) {
            for (int node = 0; node < n; node++) {
                for (int slot = 0; slot < 2; slot++) {
                    Run run = lacksOnePromise(n, 10, node, slot);
                    int m = Run.majority(n) - 1;
                    fullBelow(run, n, 2, m);
                    DUE.is(run.leaving(n - 1, m).deliver(m), 2, "proposer", node, slot, 0);
                }
            }
            fullBelow(lacksOnePromise(n, 64, 0, 0), n, 2, Run.majority(n) - 1);
        }
        Run alone = lacksOnePromise(1, 5, 0, 0).leaving(0, 0);
        DUE.is(alone, 2, "deliver", 0);
        DUE.is(alone.deliver(0), 3, "message", 0, 0);
    }

    private static void fullForAccepteds() {
        DUE.of("more accepteds would be sent than places are empty (with the message's own): FULL");
        for (int n = 2; n <= 5; n++) {
            for (int m = 0; m < n; m++) {
                for (int slot = 0; slot < 2; slot++) {
                    Run run = Run.of(n, 2, 10).elect(0, slot, 2, 7);
                    fullBelow(run, n, 3, m);
                    DUE.is(run.leaving(n - 1, m).deliver(m), 2 * n, "acceptor", m, slot, 1);
                }
            }
            fullBelow(Run.of(n, 2, 64).elect(0, 0, 2, 7), n, 3, n - 1);
        }
        Run alone = Run.of(1, 1, 5).elect(0, 0, 2, 7).leaving(0, 0);
        DUE.is(alone, 3, "deliver", 0);
        DUE.is(alone.deliver(0), 4, "message", 0, 0);
    }

    // The message in place m is answered to all n nodes: n - 1 places must be empty beside its own.
    private static void fullBelow(Run run, int n, int kind, int m) {
        int places = run.model().count(3);
        for (int empty = 0; empty < n - 1; empty++) {
            DUE.unchanged(run.leaving(empty, m), FULL, "deliver", m);
        }
        DUE.is(run.leaving(n - 1, m), kind, "deliver", m);
        DUE.is(run.leaving(n - 1, m).deliver(m), places, "count", 0);
        Run roomMade = run.leaving(n - 2, m).deliver(m).drop(places + 1 - n);
        DUE.is(roomMade, kind, "deliver", m);
    }

    private static void oneAnswerFitsAFullPool() {
        DUE.of("places are empty (with the message's own one): one promise has room");
        for (int n = 1; n <= 5; n++) {
            Run run = Run.of(n, 1, 8).prepare(0, 0, 2, 7).leaving(0, 0);
            for (int m = 0; m < 8; m++) {
                DUE.is(run, 1, "deliver", m);
                DUE.is(run.deliver(m), 2, "message", m, 0);
                DUE.is(run.deliver(m), 8, "count", 0);
            }
        }
    }

    // Fills the pool up and delivers: made, and the message's own place is empty then.
    private static void fitsAFullPool(Run run, int answer, int m) {
        Run full = run.leaving(0, m);
        DUE.is(full, FULL, "duplicate", m);
        DUE.is(full, answer, "deliver", m);
        DUE.is(full.deliver(m), full.model().count(3) - 1, "count", 0);
        DUE.is(full.deliver(m), -1, "message", m, 0);
    }

    private static void noAnswerFitsAFullPool() {
        DUE.of("A delivery by which more would be sent: not one by which nothing is");
        for (int n = 2; n <= 5; n++) {
            Run prepared = Run.of(n, 1, 20).prepare(0, 0, 2, 7);
            fitsAFullPool(prepared.duplicate(0).deliver(0), 1, n);
            fitsAFullPool(prepared.deliver(0), 2, 0);
            fitsAFullPool(sameSenderAgain(n), 2, n);
            fitsAFullPool(promiseOfAnOlderBallot(n), 2, Run.majority(n) - 1);
            fitsAFullPool(lacksOnePromise(n, 20, 0, 1).crash(0).restart(0), 2, Run.majority(n) - 1);
            if (n > 2) {
                fitsAFullPool(promiseBeyondTheMajority(n), 2, Run.majority(n));
            }
            Run accepts = Run.of(n, 1, 20).elect(0, 0, 2, 7);
            fitsAFullPool(accepts.prepare(n - 1, 0, 2, 9).deliver(n + 1), 3, 1);
            fitsAFullPool(accepts.deliver(0), 4, 0);
            fitsAFullPool(Run.of(n, 1, 20).decide(0, 0, 2, 7).tell(1, 0), 5, 0);
        }
    }

    private static Run sameSenderAgain(int n) {
        Run run = Run.of(n, 1, 20).prepare(0, 0, 2, 7).deliver(0).duplicate(0);
        for (int i = 1; i < Run.majority(n) - 1; i++) {
            run = run.deliver(i, i);
        }
        return run.deliver(0);
    }

    private static Run promiseOfAnOlderBallot(int n) {
        int last = Run.majority(n) - 1;
        Run run = Run.of(n, 1, 20).prepare(0, 0, 2, 7).deliver(last).prepare(0, 0, 3, 8);
        for (int i = 0; i < last; i++) {
            run = run.deliver(n + i, n + i);
        }
        return run;
    }

    private static Run promiseBeyondTheMajority(int n) {
        Run run = Run.of(n, 1, 20).prepare(0, 0, 2, 7);
        for (int i = 0; i < n; i++) {
            run = run.deliver(i);
        }
        for (int i = 0; i < Run.majority(n); i++) {
            run = run.deliver(i);
        }
        return run;
    }

    private static void receiverDownFitsAFullPool() {
        DUE.of("if its receiver is down, that is all: nothing is sent that lacks a place");
        for (int n = 2; n <= 5; n++) {
            fitsAFullPool(lacksOnePromise(n, 20, 0, 1).crash(0), 0, Run.majority(n) - 1);
            fitsAFullPool(Run.of(n, 1, 20).elect(0, 0, 2, 7).crash(1), 0, 1);
            fitsAFullPool(Run.of(n, 1, 20).prepare(0, 0, 2, 7).crash(1), 0, 1);
        }
    }
}
