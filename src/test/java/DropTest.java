/** Promise 5: drop. */
public final class DropTest {
    private static final Due DUE = new Due();

    public static void main(String[] args) {
        itsKind();
        itIsLost();
        PlaceEdges edges = new PlaceEdges(DUE, "drop");
        edges.noSuchPlace();
        edges.noMessageInIt();
        DUE.end();
    }

    private static void itsKind() {
        DUE.of("The message in a place is lost: its kind");
        Run run = Run.of(1, 1, 5);
        for (int kind = 1; kind <= 4; kind++) {
            DUE.is(run.prepare(0, 0, 0, 6).sweep(kind - 1), kind, "drop", 0);
        }
        DUE.is(run.decide(0, 0, 0, 6).tell(0, 0), 5, "drop", 0);
    }

    private static void itIsLost() {
        DUE.of("The message in a place is lost");
        Run run = Run.of(3, 1, 5).prepare(0, 0, 0, 6);
        DUE.is(run.drop(1), 1, "message", 0, 0);
        DUE.is(run.drop(1), -1, "message", 1, 0);
        DUE.is(run.drop(1), 1, "message", 2, 0);
        DUE.is(run.drop(1), 2, "count", 0);
        DUE.is(run.drop(1), 0, "count", 4);
        DUE.is(run.drop(1), 1, "count", 5);
        DUE.is(run.drop(1), -1, "acceptor", 1, 0, 0);
        DUE.is(run, 1, "drop", 0);
        DUE.is(run, 1, "drop", 2);
        DUE.of("The message in a place is lost: to a node that is down, too");
        DUE.is(run.crash(1), 1, "drop", 1);
        DUE.is(run.crash(1).drop(1), 0, "count", 4);
        DUE.is(run.crash(1).drop(1), 1, "count", 5);
    }
}
