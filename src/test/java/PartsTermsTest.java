/** The document's terms: nodes, slots, ballots, and the parts that a node has for each slot. */
public final class PartsTermsTest {
    private static final Due DUE = new Due();
    private static final int[] FRESH_PROPOSER = {0, -1, 0, -1, 0};
    private static final int[] FRESH_ACCEPTOR = {-1, -1, 0};

    public static void main(String[] args) {
        nodesAndSlots();
        upOrDown();
        fieldsOfAMessage();
        values();
        ballots();
        proposers();
        preparing();
        acceptors();
        learners();
        DUE.end();
    }

    private static void nodesAndSlots() {
        DUE.of("NODES are 0 .. N - 1, SLOTS 0 .. S - 1");
        for (int n = 1; n <= 5; n++) {
            for (int slots = 1; slots <= 4; slots++) {
                Run run = Run.of(n, slots, 8);
                for (int node = -1; node <= n; node++) {
                    for (int slot = -1; slot <= slots; slot++) {
                        boolean there = node >= 0 && node < n && slot >= 0 && slot < slots;
                        DUE.is(run, there ? node : -1, "prepare", node, slot, 0, 1);
                        DUE.is(run, there ? 0 : -1, "learned", node, slot);
                    }
                }
            }
        }
    }

    private static void upOrDown() {
        DUE.of("A node is up or down");
        Run run = Run.of(3, 1, 8).prepare(0, 0, 0, 6);
        for (int node = 0; node < 3; node++) {
            DUE.is(run, 1, "deliver", node);
            DUE.is(run.crash(node), 0, "deliver", node);
            DUE.is(run.crash(node), DecreePool.DOWN, "prepare", node, 0, 1, 6);
            DUE.is(run.crash(node).restart(node), 1, "deliver", node);
            DUE.is(run.crash(node).restart(node), 3 + node, "prepare", node, 0, 1, 6);
        }
    }

    private static void fields(Run run, int m, int... want) {
        for (int what = 0; what < 7; what++) {
            DUE.is(run, want[what], "message", m, what);
        }
    }

    private static void fieldsOfAMessage() {
        DUE.of("A message has a KIND, a sender, a receiver, a slot, a BALLOT, a value, and for "
                + "kind 2 also an accepted ballot");
        Run prepared = Run.of(4, 3, 16).decide(1, 2, 5, 8).prepare(3, 2, 6, 9);
        fields(prepared, 0, 1, 3, 0, 2, 27, 0, -1);
        fields(prepared.deliver(0), 0, 2, 0, 3, 2, 27, 8, 21);
        Run accepts = prepared.deliver(0, 1, 2).deliver(0, 1, 2);
        fields(accepts, 0, 3, 3, 0, 2, 27, 8, -1);
        fields(accepts.deliver(0), 0, 4, 0, 0, 2, 27, 8, -1);
        fields(prepared.drop(0).tell(2, 2), 0, 5, 2, 0, 2, -1, 8, -1);
    }

    private static void values() {
        DUE.of("VALUES are 1 or more");
        for (int value : new int[] {1, 2, 3, Integer.MAX_VALUE}) {
            DUE.is(Run.of(3, 1, 16).decide(0, 0, 0, value), value, "learned", 1, 0);
        }
        for (int value : new int[] {0, -1, Integer.MIN_VALUE}) {
            DUE.unchanged(Run.of(3, 1, 16), -1, "prepare", 0, 0, 0, value);
        }
    }

    private static void ballots() {
        DUE.of("A ballot is a round (0 .. 1000) times N, and the number of the node whose it is");
        for (int n = 1; n <= 5; n++) {
            int ballot = 0;
            for (int round = 0; round <= 1000; round++) {
                for (int node = 0; node < n; node++) {
                    DUE.is(Run.of(n, 1, 8), ballot, "prepare", node, 0, round, 1);
                    ballot++;
                }
            }
            for (int node = 0; node < n; node++) {
                Run run = Run.of(n, 1, 8);
                DUE.is(run, -1, "prepare", node, 0, -1, 1);
                DUE.is(run, -1, "prepare", node, 0, 1001, 1);
                DUE.is(run.prepare(node, 0, 7, 1), 7 * n + node, "proposer", node, 0, 1);
                DUE.is(run.prepare(node, 0, 7, 1), 7 * n + node, "message", n - 1, 4);
            }
        }
    }

    private static void proposer(Run run, int node, int slot, int... want) {
        for (int what = 0; what < 5; what++) {
            DUE.is(run, want[what], "proposer", node, slot, what);
        }
    }

    private static void proposers() {
        DUE.of("THE PROPOSER of a node for a slot has its LAST ballot (-1 at first), and a PHASE, "
                + "0 at first");
        for (int node = 0; node < 3; node++) {
            for (int slot = 0; slot < 3; slot++) {
                Run preparing = Run.of(3, 3, 16).prepare(node, slot, 2, 5);
                Run accepting = preparing.hand(1, node, 0, 6 + node).hand(2, 0, node, 6 + node)
                        .hand(1, node, 1, 6 + node).hand(2, 1, node, 6 + node);
                for (int i = 0; i < 9; i++) {
                    boolean same = i / 3 == node && i % 3 == slot;
                    int[] first = same ? new int[] {1, 6 + node, 0, -1, 0} : FRESH_PROPOSER;
                    int[] then = same ? new int[] {2, 6 + node, 2, -1, 5} : FRESH_PROPOSER;
                    proposer(Run.of(3, 3, 16), i / 3, i % 3, FRESH_PROPOSER);
                    proposer(preparing, i / 3, i % 3, first);
                    proposer(accepting, i / 3, i % 3, then);
                }
            }
        }
    }

    private static void preparing() {
        DUE.of("Preparing a ballot with a wish: it is its last one, the phase is 1, no promises, "
                + "no best one; it sends a PREPARE (kind 1, value 0) to all");
        // Node 1 has three promises of ballot 6, and ballot 5 as the best one.
        Run before = Run.of(5, 2, 32).elect(0, 1, 1, 7).deliver(2).empty()
                .prepare(1, 1, 1, 8).deliver(0, 1, 2).deliver(0, 1, 2).empty();
        proposer(before, 1, 1, 2, 6, 3, 5, 7);
        Run after = before.prepare(1, 1, 3, 9);
        proposer(after, 1, 1, 1, 16, 0, -1, 0);
        for (int node = 0; node < 5; node++) {
            fields(after, node, 1, 1, node, 1, 16, 0, -1);
        }
        DUE.is(after, 5, "count", 0);
        // Nodes 0, 3 and 4 have accepted nothing, so that the wish is proposed.
        Run wished = after.deliver(0, 3, 4).deliver(0, 3, 4);
        proposer(wished, 1, 1, 2, 16, 3, -1, 9);
    }

    private static void acceptor(Run run, int node, int slot, int... want) {
        for (int what = 0; what < 3; what++) {
            DUE.is(run, want[what], "acceptor", node, slot, what);
        }
    }

    private static void acceptors() {
        DUE.of("THE ACCEPTOR has the ballot that it PROMISED, and the ballot and value that it "
                + "ACCEPTED last (-1, and 0, at first)");
        for (int node = 0; node < 3; node++) {
            for (int slot = 0; slot < 3; slot++) {
                Run fresh = Run.of(3, 3, 16);
                Run promised = fresh.prepare(1, slot, 4, 5).deliver(node);
                Run accepted = fresh.elect(1, slot, 4, 5).deliver(node);
                Run promisedMore = accepted.empty().prepare(2, slot, 4, 6).deliver(node);
                for (int i = 0; i < 9; i++) {
                    boolean same = i / 3 == node && i % 3 == slot;
                    acceptor(fresh, i / 3, i % 3, FRESH_ACCEPTOR);
                    acceptor(promised, i / 3, i % 3, same ? new int[] {13, -1, 0} : FRESH_ACCEPTOR);
                }
                acceptor(accepted, node, slot, 13, 13, 5);
                acceptor(promisedMore, node, slot, 14, 13, 5);
                Run acceptedLast = accepted.empty().elect(0, slot, 5, 8).deliver(node);
                acceptor(acceptedLast, node, slot, 15, 15, node == 2 ? 8 : 5);
            }
        }
    }

    private static void learners() {
        DUE.of("THE LEARNER has of each node the greatest ballot of which it HEARD that it was "
                + "accepted there, with its value (none at first), and perhaps what it has "
                + "LEARNED");
        for (int node = 0; node < 3; node++) {
            for (int slot = 0; slot < 3; slot++) {
                Run elected = Run.of(3, 3, 16).elect(1, slot, 4, 5);
                Run once = elected.deliver(0).hand(4, 0, node, 13);
                Run twice = once.hand(3, 1, 2, 13).hand(4, 2, node, 13);
                for (int i = 0; i < 9; i++) {
                    boolean same = i / 3 == node && i % 3 == slot;
                    heard(elected, i / 3, i % 3, 0, -1, -1, -1);
                    heard(once, i / 3, i % 3, 0, same ? 13 : -1, -1, -1);
                    heard(twice, i / 3, i % 3, same ? 5 : 0, same ? 13 : -1, -1, same ? 13 : -1);
                }
            }
        }
    }

    private static void heard(Run run, int node, int slot, int learned, int... want) {
        DUE.is(run, learned, "learned", node, slot);
        for (int of = 0; of < 3; of++) {
            DUE.is(run, want[of], "heard", node, slot, of);
        }
    }
}
