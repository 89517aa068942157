/** Promise 6: duplicate. */
public final class DuplicateTest {
    private static final Due DUE = new Due();

    public static void main(String[] args) {
        everyFieldOfEachKind();
        thePlaceWhereItIs();
        PlaceEdges edges = new PlaceEdges(DUE, "duplicate");
        edges.noSuchPlace();
        edges.noMessageInIt();
        full();
        DUE.end();
    }

    private static void everyFieldOfEachKind() {
        DUE.of("A copy of the message in a place is sent");
        Run decided = Run.of(3, 2, 16).decide(1, 1, 2, 6);
        for (int kind = 1; kind <= 5; kind++) {
            Run run = kind == 5 ? decided.tell(2, 1) : decided.prepare(2, 1, 3, 8);
            for (int i = 0; i < 16 && run.model().message(0, 0) != kind; i++) {
                run = run.sweep(1);
            }
            DUE.is(run, kind, "message", 0, 0);
            long place = run.answer(new Call("duplicate", 0));
            for (int what = 0; what < 7; what++) {
                DUE.is(run.duplicate(0), run.answer(new Call("message", 0, what)),
                        "message", (int) place, what);
                DUE.is(run.duplicate(0), run.answer(new Call("message", 0, what)),
                        "message", 0, what);
            }
            DUE.is(run.duplicate(0), run.answer(new Call("count", 0)) + 1, "count", 0);
            DUE.is(run.duplicate(0), run.answer(new Call("count", 4)), "count", 4);
            DUE.is(run.duplicate(0), run.answer(new Call("count", 5)), "count", 5);
        }
    }

    private static void thePlaceWhereItIs() {
        DUE.of("the place where it is: the empty place with the least number");
        Run run = Run.of(3, 1, 8).prepare(0, 0, 0, 6);
        DUE.is(run, 3, "duplicate", 2);
        DUE.is(run.drop(0), 0, "duplicate", 2);
        DUE.is(run.drop(1), 1, "duplicate", 0);
        DUE.is(run.duplicate(2), 4, "duplicate", 3);
    }

    private static void full() {
        DUE.of("FULL");
        for (int n = 1; n <= 5; n++) {
            for (int places : new int[] {6, 32, 64}) {
                Run run = Run.of(n, 1, places).prepare(0, 0, 0, 6).leaving(1, 0);
                Run full = run.duplicate(0);
                DUE.is(run, places - 1, "duplicate", 0);
                DUE.is(full, places, "count", 0);
                DUE.unchanged(full, DecreePool.FULL, "duplicate", 0);
                DUE.unchanged(full, DecreePool.FULL, "duplicate", places - 1);
                DUE.is(full.drop(2), 2, "duplicate", places - 1);
            }
        }
    }
}
