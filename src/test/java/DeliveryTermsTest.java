/** Terms: what the delivery of each kind of message does, and when it does nothing. */
public final class DeliveryTermsTest {
    private static final Due DUE = new Due();
    private static final int[][] ORDERS =
            {{0, 1, 2}, {0, 2, 1}, {1, 0, 2}, {1, 2, 0}, {2, 0, 1}, {2, 1, 0}};

    public static void main(String[] args) {
        prepareGreaterThanPromised();
        prepareAndWhatWasAccepted();
        promiseInPhaseOneAlone();
        promiseOfTheLastBallotAlone();
        eachCountsOnce();
        theGreatestIsTheBestOne();
        theWishIfThereIsNoBestOne();
        aMajorityHasPromised();
        acceptNotLessThanPromised();
        sameAcceptAgain();
        acceptedGreaterThanHeard();
        aMajorityHasTheSameBallotHeard();
        oneSenderIsHeardOnce();
        aLesserBallotMakesNoMajority();
        whatIsTold();
        DUE.end();
    }

    private static void acceptor(Run run, int node, int... want) {
        for (int what = 0; what < 3; what++) {
            DUE.is(run, want[what], "acceptor", node, 0, what);
        }
    }

    private static void proposer(Run run, int node, int... want) {
        for (int what = 0; what < 5; what++) {
            DUE.is(run, want[what], "proposer", node, 0, what);
        }
    }

    private static void fields(Run run, int m, int... want) {
        for (int what = 0; what < 7; what++) {
            DUE.is(run, want[what], "message", m, what);
        }
    }

    // The message in place m is delivered, and nothing is sent.
    private static Run withoutAnswer(Run run, int kind, int m) {
        DUE.is(run, kind, "deliver", m);
        DUE.is(run.deliver(m), run.model().count(0) - 1, "count", 0);
        DUE.is(run.deliver(m), -1, "message", m, 0);
        return run.deliver(m);
    }

    private static void prepareGreaterThanPromised() {
        DUE.of("a prepare: if its ballot is greater than what was promised");
        Run first = Run.of(3, 1, 8).prepare(0, 0, 0, 7);
        acceptor(first, 1, -1, -1, 0);
        acceptor(first.deliver(1), 1, 0, -1, 0);
        fields(first.deliver(1), 1, 2, 1, 0, 0, 0, 0, -1);
        // Ballots 3, 4 and 5; node 1 has promised 4, and gets the prepare of 4 once more.
        Run run = Run.of(3, 1, 16).prepare(0, 0, 1, 7).prepare(1, 0, 1, 8).prepare(2, 0, 1, 9)
                .duplicate(4).deliver(4);
        acceptor(run, 1, 4, -1, 0);
        acceptor(withoutAnswer(run, 1, 1), 1, 4, -1, 0);
        acceptor(withoutAnswer(run, 1, 9), 1, 4, -1, 0);
        DUE.is(run, 1, "deliver", 7);
        acceptor(run.deliver(7), 1, 5, -1, 0);
        fields(run.deliver(7), 7, 2, 1, 2, 0, 5, 0, -1);
        DUE.is(run.deliver(7), 10, "count", 0);
        acceptor(run.deliver(7), 0, -1, -1, 0);
        acceptor(run.deliver(7), 2, -1, -1, 0);
    }

    private static void prepareAndWhatWasAccepted() {
        DUE.of("a PROMISE of that ballot (kind 2), with the accepted ballot and value");
        // The accepts of ballot 4 are in places 0, 1 and 3, its prepare to node 2 still in 2.
        Run run = Run.of(3, 2, 16).prepare(1, 0, 1, 8).deliver(0, 1, 0, 1).deliver(3);
        acceptor(run, 2, 4, 4, 8);
        acceptor(withoutAnswer(run, 1, 2), 2, 4, 4, 8);
        Run less = run.prepare(0, 0, 1, 7);
        acceptor(withoutAnswer(less, 1, less.find(1, 0, 2, 3)), 2, 4, 4, 8);
        Run more = run.prepare(2, 0, 1, 9);
        int m = more.find(1, 2, 2, 5);
        acceptor(more.deliver(m), 2, 5, 4, 8);
        fields(more.deliver(m), m, 2, 2, 2, 0, 5, 8, 4);
        Run elsewhere = run.prepare(2, 1, 0, 9);
        int other = elsewhere.find(1, 2, 2, 2);
        fields(elsewhere.deliver(other), other, 2, 2, 2, 1, 2, 0, -1);
    }

    private static void promiseInPhaseOneAlone() {
        DUE.of("a promise: if the phase is 1");
        Run run = Run.of(3, 1, 16).prepare(0, 0, 0, 7).deliver(0, 1, 2);
        proposer(run, 0, 1, 0, 0, -1, 0);
        proposer(run.deliver(0), 0, 1, 0, 1, -1, 0);
        Run phase0 = run.deliver(0).crash(0).restart(0);
        proposer(phase0, 0, 0, 0, 0, -1, 0);
        Run late = withoutAnswer(withoutAnswer(phase0, 2, 1), 2, 2);
        proposer(late, 0, 0, 0, 0, -1, 0);
        Run phase2 = run.deliver(0, 1);
        proposer(phase2, 0, 2, 0, 2, -1, 7);
        proposer(withoutAnswer(phase2, 2, 2), 0, 2, 0, 2, -1, 7);
        DUE.of("a promise: if the phase is 1: a best one that is told later is none");
        Run accepted = Run.of(3, 1, 16).elect(0, 0, 0, 20).deliver(2).empty()
                .prepare(1, 0, 1, 8).deliver(0, 1, 2).deliver(0, 1);
        proposer(accepted, 1, 2, 4, 2, -1, 8);
        proposer(withoutAnswer(accepted, 2, 2), 1, 2, 4, 2, -1, 8);
    }

    private static void promiseOfTheLastBallotAlone() {
        DUE.of("a promise: if it is of the last ballot");
        // Promises of ballot 0 are in places 0 and 1, one of ballot 3 in place 3.
        Run run = Run.of(3, 1, 16).prepare(0, 0, 0, 7).deliver(0, 1).prepare(0, 0, 1, 8).deliver(3);
        Run older = withoutAnswer(withoutAnswer(run, 2, 0), 2, 1);
        proposer(older, 0, 1, 3, 0, -1, 0);
        proposer(older.deliver(3), 0, 1, 3, 1, -1, 0);
        proposer(run.deliver(0, 3, 1), 0, 1, 3, 1, -1, 0);
        // One node: the older promise would make a majority.
        Run alone = Run.of(1, 1, 5).prepare(0, 0, 999, 7).deliver(0).prepare(0, 0, 1000, 8);
        proposer(withoutAnswer(alone, 2, 0), 0, 1, 1000, 0, -1, 0);
    }

    private static void eachCountsOnce() {
        DUE.of("its sender has promised (each counts once)");
        for (int n = 2; n <= 5; n++) {
            Run run = Run.of(n, 1, 32).prepare(0, 0, 0, 7).deliver(0).leaving(12, 0);
            for (int m = n; m < 20; m++) {
                run = withoutAnswer(run, 2, m);
                DUE.is(run, 1, "proposer", 0, 0, 2);
                DUE.is(run, 1, "proposer", 0, 0, 0);
            }
            Run next = run.deliver(1, 1);
            DUE.is(next, 2, "proposer", 0, 0, 2);
            DUE.is(next, Run.majority(n) == 2 ? 2 : 1, "proposer", 0, 0, 0);
        }
    }

    // Node 1 has accepted 20 with ballot 0, node 2 has accepted 30 with ballot 6, node 3 nothing.
    private static Run twoAccepted() {
        Run run = Run.of(5, 1, 64).elect(0, 0, 0, 20).deliver(1).empty()
                .prepare(1, 0, 1, 30).deliver(2, 3, 4).drop(0, 1).deliver(2, 3, 4)
                .deliver(2).empty();
        acceptor(run, 1, 0, 0, 20);
        acceptor(run, 2, 6, 6, 30);
        acceptor(run, 3, 6, -1, 0);
        return run;
    }

    private static void theGreatestIsTheBestOne() {
        DUE.of("of the accepted ballots that are told (not -1) the greatest is the best one");
        int[] told = {0, 6, -1};
        for (int[] order : ORDERS) {
            Run run = twoAccepted().prepare(4, 0, 2, 40).deliver(1, 2, 3);
            int best = -1;
            for (int i = 0; i < 3; i++) {
                run = run.deliver(1 + order[i]);
                best = Math.max(best, told[order[i]]);
                proposer(run, 4, i < 2 ? 1 : 2, 14, i + 1, best, i < 2 ? 0 : 30);
            }
            for (int node = 0; node < 5; node++) {
                int m = run.find(3, 4, node, 14);
                fields(run, m, 3, 4, node, 0, 14, 30, -1);
            }
        }
        DUE.of("of the accepted ballots that are told (not -1): ballot 0 is one");
        Run least = twoAccepted().prepare(4, 0, 2, 40).deliver(0, 1, 3).deliver(0, 3);
        proposer(least, 4, 1, 14, 2, -1, 0);
        proposer(least.deliver(1), 4, 2, 14, 3, 0, 20);
    }

    private static void theWishIfThereIsNoBestOne() {
        DUE.of("with the best one's value, or the wish if there is none");
        Run run = twoAccepted().prepare(4, 0, 2, 40).deliver(0, 3, 4).deliver(0, 3, 4);
        proposer(run, 4, 2, 14, 3, -1, 40);
        fields(run, run.find(3, 4, 0, 14), 3, 4, 0, 0, 14, 40, -1);
    }

    private static void aMajorityHasPromised() {
        DUE.of("a MAJORITY is more than half of the nodes: of promises");
        int[] majority = {0, 1, 2, 2, 3, 3};
        for (int n = 1; n <= 5; n++) {
            Run run = Run.of(n, 1, 32).prepare(n - 1, 0, 1, 7);
            for (int i = 0; i < n; i++) {
                run = run.deliver(i);
            }
            for (int i = 0; i < majority[n] - 1; i++) {
                run = withoutAnswer(run, 2, i);
                proposer(run, n - 1, 1, 2 * n - 1, i + 1, -1, 0);
            }
            int before = run.model().count(0);
            run = run.deliver(majority[n] - 1);
            proposer(run, n - 1, 2, 2 * n - 1, majority[n], -1, 7);
            DUE.is(run, before - 1 + n, "count", 0);
            for (int node = 0; node < n; node++) {
                fields(run, run.find(3, n - 1, node, 2 * n - 1),
                        3, n - 1, node, 0, 2 * n - 1, 7, -1);
            }
        }
    }

    private static void acceptNotLessThanPromised() {
        DUE.of("an accept: if its ballot is not less than what was promised");
        // The accepts of ballot 4 are in places 0, 1 and 2, the one in 2 to node 2.
        Run run = Run.of(3, 1, 16).elect(1, 0, 1, 8);
        acceptor(run, 0, 4, -1, 0);
        acceptor(run.deliver(0), 0, 4, 4, 8);
        acceptor(run, 2, -1, -1, 0);
        acceptor(run.deliver(2), 2, 4, 4, 8);
        Run less = run.prepare(0, 0, 1, 7).hand(1, 0, 2, 3);
        acceptor(less, 2, 3, -1, 0);
        acceptor(less.deliver(2), 2, 4, 4, 8);
        Run more = run.prepare(2, 0, 1, 9).hand(1, 2, 2, 5);
        acceptor(more, 2, 5, -1, 0);
        acceptor(withoutAnswer(more, 3, 2), 2, 5, -1, 0);
        DUE.of("and an ACCEPTED of it (kind 4) goes to all");
        int[] places = {2, 3, 4};
        DUE.is(run, 3, "deliver", 2);
        for (int node = 0; node < 3; node++) {
            fields(run.deliver(2), places[node], 4, 2, node, 0, 4, 8, -1);
        }
        DUE.is(run.deliver(2), 5, "count", 0);
        acceptAfterAnother(run);
    }

    // Node 0 has accepted ballot 4 and promised 5, or accepted 5 too, before ballot 4 comes again.
    private static void acceptAfterAnother(Run run) {
        DUE.of("an accept: if its ballot is not less than what was promised, again");
        Run promised = run.duplicate(0).deliver(0).prepare(2, 0, 1, 9).hand(1, 2, 0, 5);
        int m = promised.find(3, 1, 0, 4);
        acceptor(promised, 0, 5, 4, 8);
        acceptor(withoutAnswer(promised, 3, m), 0, 5, 4, 8);
        Run accepted = promised.hand(1, 2, 1, 5).hand(2, 0, 2, 5).hand(2, 1, 2, 5).hand(3, 2, 0, 5);
        acceptor(accepted, 0, 5, 5, 8);
        acceptor(withoutAnswer(accepted, 3, m), 0, 5, 5, 8);
    }

    private static void sameAcceptAgain() {
        DUE.of("an accept: if its ballot is not less than what was promised, the same one, too");
        Run run = Run.of(1, 1, 8).elect(0, 0, 0, 5).duplicate(0).deliver(0);
        acceptor(run, 0, 0, 0, 5);
        DUE.is(run, 3, "deliver", 1);
        acceptor(run.deliver(1), 0, 0, 0, 5);
        fields(run.deliver(1), 1, 4, 0, 0, 0, 0, 5, -1);
        DUE.is(run.deliver(1), 2, "count", 0);
    }

    // Node 1 has accepted ballots 3, 4 and 5, one after the other; 2 has not heard of them.
    private static Run threeAccepted() {
        Run run = Run.of(3, 1, 64);
        for (int node = 0; node < 3; node++) {
            int ballot = 3 + node;
            int other = node == 1 ? 0 : node;
            run = run.prepare(node, 0, 1, 7).hand(1, node, 1, ballot).hand(1, node, other, ballot)
                    .hand(2, 1, node, ballot).hand(2, other, node, ballot).hand(3, node, 1, ballot);
        }
        acceptor(run, 1, 5, 5, 7);
        return run;
    }

    private static void acceptedGreaterThanHeard() {
        DUE.of("an accepted: if its ballot is greater than what was heard of its sender");
        for (int[] order : ORDERS) {
            Run run = threeAccepted();
            DUE.is(run, -1, "heard", 2, 0, 1);
            int greatest = -1;
            for (int next : order) {
                int m = run.find(4, 1, 2, 3 + next);
                run = withoutAnswer(run, 4, m);
                greatest = Math.max(greatest, 3 + next);
                DUE.is(run, greatest, "heard", 2, 0, 1);
                DUE.is(run, -1, "heard", 2, 0, 0);
                DUE.is(run, -1, "heard", 2, 0, 2);
                DUE.is(run, -1, "heard", 0, 0, 1);
                DUE.is(run, 0, "learned", 2, 0);
            }
        }
        DUE.of("an accepted: if its ballot is greater than what was heard: ballot 0 than none");
        Run least = Run.of(3, 1, 16).elect(0, 0, 0, 7).deliver(1);
        DUE.is(least.hand(4, 1, 2, 0), 0, "heard", 2, 0, 1);
    }

    private static void aMajorityHasTheSameBallotHeard() {
        DUE.of("When a majority of nodes has the same ballot heard, its value is learned");
        int[] majority = {0, 1, 2, 2, 3, 3};
        for (int n = 1; n <= 5; n++) {
            for (int first = 0; first < n; first++) {
                Run run = Run.of(n, 1, 64).elect(0, 0, 1, 7);
                for (int node = 0; node < n; node++) {
                    run = run.hand(3, 0, node, n);
                }
                for (int i = 1; i <= n; i++) {
                    run = run.hand(4, (first + i) % n, n - 1, n);
                    DUE.is(run, i < majority[n] ? 0 : 7, "learned", n - 1, 0);
                    DUE.is(run, n, "heard", n - 1, 0, (first + i) % n);
                }
                if (n > 1) {
                    DUE.is(run, 0, "learned", 0, 0);
                }
            }
        }
    }

    private static void oneSenderIsHeardOnce() {
        DUE.of("When a majority of nodes has the same ballot heard: of nodes, not of messages");
        Run run = Run.of(3, 1, 16).elect(0, 0, 0, 7).deliver(0);
        int m = run.find(4, 0, 2, 0);
        run = run.leaving(2, m).deliver(m);
        for (int i = 0; i < 7; i++) {
            run = run.hand(4, 0, 2, 0);
            DUE.is(run, 0, "learned", 2, 0);
        }
        DUE.is(run.deliver(1).hand(4, 1, 2, 0), 7, "learned", 2, 0);
    }

    private static void aLesserBallotMakesNoMajority() {
        DUE.of("the greatest ballot of which it HEARD: a majority of the same, and not of lesser");
        // Nodes 0 and 1 have accepted ballot 3, and node 1 then ballot 4, with the same value.
        Run run = Run.of(3, 1, 32).elect(0, 0, 1, 7).hand(3, 0, 0, 3).hand(3, 0, 1, 3)
                .prepare(1, 0, 1, 8).hand(1, 1, 0, 4).hand(1, 1, 1, 4).hand(2, 0, 1, 4)
                .hand(2, 1, 1, 4).hand(3, 1, 1, 4);
        Run apart = run.hand(4, 1, 2, 4).hand(4, 0, 2, 3);
        DUE.is(apart, 0, "learned", 2, 0);
        DUE.is(apart.hand(4, 1, 2, 3), 4, "heard", 2, 0, 1);
        DUE.is(apart.hand(4, 1, 2, 3), 0, "learned", 2, 0);
        Run same = run.hand(4, 1, 2, 3);
        DUE.is(same, 0, "learned", 2, 0);
        DUE.is(same.hand(4, 0, 2, 3), 7, "learned", 2, 0);
        Run overtaken = same.hand(4, 1, 2, 4).hand(4, 0, 2, 3);
        DUE.is(overtaken, 0, "learned", 2, 0);
        Run both = overtaken.hand(3, 1, 0, 4).hand(4, 0, 2, 4);
        DUE.is(both, 7, "learned", 2, 0);
    }

    private static void whatIsTold() {
        DUE.of("what is TOLD (kind 5): if nothing is learned, its value is");
        Run run = Run.of(3, 2, 32).crash(2).decide(0, 1, 0, 7).restart(2).tell(1, 1);
        DUE.is(run, 0, "learned", 2, 1);
        Run told = withoutAnswer(run, 5, 2);
        DUE.is(told, 7, "learned", 2, 1);
        DUE.is(told, 0, "learned", 2, 0);
        for (int of = 0; of < 3; of++) {
            DUE.is(told, -1, "heard", 2, 1, of);
        }
        DUE.is(told, -1, "acceptor", 2, 1, 0);
        DUE.is(told, -1, "acceptor", 2, 1, 1);
        DUE.is(told, 7, "tell", 2, 1);
        DUE.is(withoutAnswer(run, 5, 0), 7, "learned", 0, 1);
        Run again = told.tell(2, 1).empty().tell(0, 1);
        DUE.is(withoutAnswer(again, 5, 2), 7, "learned", 2, 1);
        DUE.of("When a majority .. and nothing is learned");
        Run heardToo = told.empty().decide(2, 1, 5, 9);
        DUE.is(heardToo, 7, "learned", 2, 1);
        DUE.is(heardToo, 17, "heard", 2, 1, 0);
    }
}
