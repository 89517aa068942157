import java.util.ArrayList;
import java.util.Collections;
import java.util.List;

/**
 * Calls on a new object, kept so that they can be made again for each look: no look stands in the
 * way of another, and no object is asked more often than the document allows.
 */
final class Run {
    private static final int MOST_CALLS = 512;
    private static final int PLACES_A_LOOK = 16;

    private final int[] sizes;
    private final List<Call> calls;
    private List<List<Long>> outcomes = null;

    private Run(int[] sizes, List<Call> calls) {
        this.sizes = sizes;
        this.calls = calls;
    }

    static Run of(int n, int slots, int places) {
        return new Run(new int[] {n, slots, places}, Collections.emptyList());
    }

    /** Something in every part: a decree, a best ballot that was told, a ballot of another slot. */
    static Run busy(int n, int slots, int places) {
        return of(n, slots, places).decide(0, 0, 1, 6).prepare(n - 1, 0, 3, 9).deliver(0, 0)
                .prepare(0, slots - 1, 5, 4);
    }

    static int majority(int n) {
        return n / 2 + 1;
    }

    Run then(String name, int... args) {
        List<Call> more = new ArrayList<>(calls);
        more.add(new Call(name, args));
        return new Run(sizes, more);
    }

    private Run thenEach(String name, int... args) {
        Run run = this;
        for (int arg : args) {
            run = run.then(name, arg);
        }
        return run;
    }

    Run prepare(int node, int slot, int round, int value) {
        return then("prepare", node, slot, round, value);
    }

    Run deliver(int... places) {
        return thenEach("deliver", places);
    }

    Run sweep(int k) {
        return then("sweep", k);
    }

    Run drop(int... places) {
        return thenEach("drop", places);
    }

    Run duplicate(int... places) {
        return thenEach("duplicate", places);
    }

    Run crash(int... nodes) {
        return thenEach("crash", nodes);
    }

    Run restart(int... nodes) {
        return thenEach("restart", nodes);
    }

    Run tell(int node, int slot) {
        return then("tell", node, slot);
    }

    /** Delivers the message that find() finds. */
    Run hand(int kind, int sender, int receiver, int ballot) {
        return deliver(find(kind, sender, receiver, ballot));
    }

    /** The least place with a message of a kind from a node to a node, of a ballot. */
    int find(int kind, int sender, int receiver, int ballot) {
        PlainModel y = model();
        for (int m = 0; m < y.count(3); m++) {
            if (y.message(m, 0) == kind && y.message(m, 1) == sender
                    && y.message(m, 2) == receiver && y.message(m, 4) == ballot) {
                return m;
            }
        }
        throw new IllegalStateException("no such message behind " + this);
    }

    /** Doubles the message in a place until so many places are empty. */
    Run leaving(int empty, int m) {
        PlainModel y = model();
        int more = y.count(3) - y.count(0) - empty;
        if (more < 0 || y.message(m, 0) == -1) {
            throw new IllegalStateException("cannot leave " + empty + " behind " + this);
        }
        Run run = this;
        for (int i = 0; i < more; i++) {
            run = run.duplicate(m);
        }
        return run;
    }

    /** Drops all messages. */
    Run empty() {
        PlainModel y = model();
        Run run = this;
        for (int m = 0; m < y.count(3); m++) {
            run = y.message(m, 0) == -1 ? run : run.drop(m);
        }
        return run;
    }

    /** Brings a value through with all that this sends. */
    Run decide(int node, int slot, int round, int value) {
        Run run = prepare(node, slot, round, value);
        while (run.model().count(0) > 0) {
            if (run.model().sweep(1) == 0) {
                throw new IllegalStateException("no room behind " + run);
            }
            run = run.sweep(100);
        }
        return run;
    }

    /**
     * From an empty pool, all nodes up: the least nodes promise, just a majority of them, so that
     * the accept to each node stands in the place of its number, and nothing else is there.
     */
    Run elect(int node, int slot, int round, int value) {
        int n = model().count(1);
        Run run = prepare(node, slot, round, value);
        for (int i = 0; i < n; i++) {
            run = i < majority(n) ? run.deliver(i) : run.drop(i);
        }
        for (int i = 0; i < majority(n); i++) {
            run = run.deliver(i);
        }
        return run;
    }

    /** The plain model behind the same calls. */
    PlainModel model() {
        PlainModel y = new PlainModel(sizes[0], sizes[1], sizes[2]);
        for (Call call : calls) {
            call.on(y);
        }
        return y;
    }

    long answer(Call call) {
        return answers(List.of(call)).get(0);
    }

    /** What is answered to more calls, on a new object behind the run. */
    List<Long> answers(List<Call> more) {
        if (calls.size() + more.size() > MOST_CALLS) {
            throw new IllegalStateException("too many calls: " + this);
        }
        DecreePool x = new DecreePool(sizes[0], sizes[1], sizes[2]);
        for (Call call : calls) {
            call.on(x);
        }
        List<Long> said = new ArrayList<>();
        for (Call call : more) {
            said.add(call.on(x));
        }
        return said;
    }

    /**
     * All that can be seen now and behind some ways of going on: two runs that are alike in this
     * have left the same object behind, its wishes and its promises, too, which no call tells.
     */
    List<List<Long>> outcomes() {
        if (outcomes == null) {
            outcomes = new ArrayList<>();
            for (List<Call> sequel : sequels()) {
                outcomes.add(answers(sequel));
                List<Call> all = new ArrayList<>(calls);
                all.addAll(sequel);
                outcomes.add(new Run(sizes, all).view());
            }
        }
        return outcomes;
    }

    /** All that can be seen; the number of deliveries comes last. */
    List<Long> view() {
        PlainModel y = model();
        List<Long> seen = new ArrayList<>();
        for (int first = 0; first < y.count(3); first += PLACES_A_LOOK) {
            seen.addAll(answers(placesFrom(first)));
        }
        for (int slot = 0; slot < y.count(2); slot++) {
            seen.addAll(answers(partsOf(slot, y.count(1))));
        }
        seen.addAll(answers(theRest(y.count(1))));
        return seen;
    }

    private static List<Call> placesFrom(int first) {
        List<Call> looks = new ArrayList<>();
        for (int m = first; m < first + PLACES_A_LOOK; m++) {
            for (int what = 0; what < 7; what++) {
                looks.add(new Call("message", m, what));
            }
        }
        return looks;
    }

    private static List<Call> partsOf(int slot, int nodes) {
        List<Call> looks = new ArrayList<>();
        looks.add(new Call("chosen", slot));
        for (int node = 0; node < nodes; node++) {
            looks.add(new Call("learned", node, slot));
            for (int what = 0; what < 3; what++) {
                looks.add(new Call("acceptor", node, slot, what));
            }
            for (int what = 0; what < 5; what++) {
                looks.add(new Call("proposer", node, slot, what));
            }
            for (int of = 0; of < nodes; of++) {
                looks.add(new Call("heard", node, slot, of));
            }
        }
        return looks;
    }

    private static List<Call> theRest(int nodes) {
        List<Call> looks = new ArrayList<>();
        for (int node = 0; node < nodes; node++) {
            looks.add(new Call("prefix", node));
            looks.add(new Call("applied", node));
        }
        for (int what : new int[] {0, 1, 2, 3, 5, 6, 4}) {
            looks.add(new Call("count", what));
        }
        return looks;
    }

    private List<List<Call>> sequels() {
        PlainModel y = model();
        int nodes = y.count(1);
        int slots = y.count(2);
        int places = y.count(3);
        return List.of(List.of(), stepByStep(), fromTheLastPlace(places), allDown(nodes),
                newBallots(nodes, slots), fromAnEmptyPool(nodes, slots, places),
                toAFullPool(places));
    }

    private static List<Call> stepByStep() {
        return Collections.nCopies(24, new Call("sweep", 1));
    }

    private static List<Call> fromTheLastPlace(int places) {
        List<Call> more = new ArrayList<>();
        for (int i = 0; i < 2 * places; i++) {
            more.add(new Call("deliver", places - 1 - i % places));
        }
        return more;
    }

    private static List<Call> allDown(int nodes) {
        List<Call> more = new ArrayList<>();
        for (String name : new String[] {"crash", "restart"}) {
            for (int node = 0; node < nodes; node++) {
                more.add(new Call(name, node));
            }
        }
        more.add(new Call("sweep", 100));
        return more;
    }

    private static List<Call> newBallots(int nodes, int slots) {
        List<Call> more = new ArrayList<>();
        for (int slot = 0; slot < slots; slot++) {
            more.add(new Call("sweep", 100));
            more.add(new Call("prepare", slot % nodes, slot, 900, 50 + slot));
            more.add(new Call("sweep", 100));
        }
        return more;
    }

    private static List<Call> fromAnEmptyPool(int nodes, int slots, int places) {
        List<Call> more = new ArrayList<>();
        for (int m = 0; m < places; m++) {
            more.add(new Call("drop", m));
        }
        for (int slot = 0; slot < slots; slot++) {
            for (int node = 0; node < nodes; node++) {
                more.add(new Call("tell", node, slot));
                more.add(new Call("prepare", node, slot, 1000, 80 + node));
                more.add(new Call("sweep", 7));
            }
        }
        return more;
    }

    private static List<Call> toAFullPool(int places) {
        List<Call> more = new ArrayList<>();
        for (int m = 0; m < places; m++) {
            more.add(new Call("duplicate", m));
        }
        for (int m = 0; m < places; m++) {
            more.add(new Call("deliver", m));
        }
        return more;
    }

    @Override
    public String toString() {
        return "new DecreePool(" + sizes[0] + ", " + sizes[1] + ", " + sizes[2] + ") " + calls;
    }
}
