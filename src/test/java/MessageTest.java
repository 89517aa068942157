/** Promise 14: message. */
public final class MessageTest {
    private static final Due DUE = new Due();

    public static void main(String[] args) {
        everyKind();
        acceptedBallotOfOtherKinds();
        noSuchPlace();
        noMessageInIt();
        anotherWhat();
        DUE.end();
    }

    private static void fields(Run run, int m, int... want) {
        for (int what = 0; what < 7; what++) {
            DUE.unchanged(run, want[what], "message", m, what);
        }
    }

    private static Run prepared() {
        return Run.of(3, 2, 16).decide(1, 1, 2, 6).prepare(2, 1, 3, 8);
    }

    private static void everyKind() {
        DUE.of("its kind (what = 0), sender (1), receiver (2), slot (3), ballot (4), value (5)");
        Run run = prepared();
        fields(run, 0, 1, 2, 0, 1, 11, 0, -1);
        fields(run.deliver(0), 0, 2, 0, 2, 1, 11, 6, 7);
        Run accepts = run.deliver(0, 0, 1, 0);
        fields(accepts, 1, 3, 2, 1, 1, 11, 6, -1);
        fields(accepts.deliver(1), 1, 4, 1, 0, 1, 11, 6, -1);
        fields(accepts.deliver(1).tell(0, 1), 6, 5, 0, 0, 1, -1, 6, -1);
        Run greatest = Run.of(5, 4, 64).elect(4, 3, 1000, Integer.MAX_VALUE);
        fields(greatest, 4, 3, 4, 4, 3, 5004, Integer.MAX_VALUE, -1);
    }

    private static void acceptedBallotOfOtherKinds() {
        DUE.of("accepted ballot (6, -1 for other kinds than 2)");
        // Place 0 held a promise that told ballot 7, then has each of the other kinds.
        Run told = prepared().deliver(0);
        DUE.is(told, 7, "message", 0, 6);
        Run accepts = told.deliver(1).deliver(0, 1);
        Run[] others = {
            told.drop(0).prepare(0, 0, 0, 5), accepts, accepts.deliver(0), told.drop(0).tell(0, 1),
        };
        int[] kinds = {1, 3, 4, 5};
        for (int i = 0; i < 4; i++) {
            DUE.is(others[i], kinds[i], "message", 0, 0);
            DUE.is(others[i], -1, "message", 0, 6);
        }
        DUE.of("accepted ballot: of kind 2, -1 where nothing was accepted, and 0");
        Run first = Run.of(3, 1, 16).prepare(0, 0, 0, 5);
        DUE.is(first.deliver(0), 2, "message", 0, 0);
        DUE.is(first.deliver(0), -1, "message", 0, 6);
        Run second = Run.of(3, 1, 16).decide(0, 0, 0, 5).prepare(0, 0, 1, 5).deliver(0);
        DUE.is(second, 0, "message", 0, 6);
    }

    private static void noSuchPlace() {
        DUE.of("NONE when there is none, as there is no such place");
        for (int places : new int[] {5, 6, 32, 63, 64}) {
            Run run = Run.of(1, 1, places).prepare(0, 0, 9, 4).leaving(0, 0);
            DUE.is(run, 9, "message", 0, 4);
            DUE.is(run, 9, "message", places - 1, 4);
            for (int m : Due.outside(0, places - 1)) {
                for (int what = 0; what < 7; what++) {
                    DUE.unchanged(run, -1, "message", m, what);
                }
            }
        }
    }

    private static void noMessageInIt() {
        DUE.of("NONE when there is none in the place");
        Run run = Run.of(3, 1, 6).prepare(0, 0, 0, 4);
        for (int what = -1; what <= 7; what++) {
            for (int m = 0; m < 3; m++) {
                DUE.unchanged(run.drop(m), -1, "message", m, what);
            }
            for (int m = 3; m < 6; m++) {
                DUE.unchanged(run, -1, "message", m, what);
            }
            DUE.unchanged(run.deliver(0, 0), -1, "message", 0, what);
        }
    }

    private static void anotherWhat() {
        DUE.of("NONE for another what");
        // Full of promises that tell a ballot, so that no field beside one of them is -1.
        Run run = prepared().deliver(0).drop(1, 2).leaving(0, 0);
        for (int m : new int[] {0, 1, 15}) {
            DUE.is(run, 2, "message", m, 0);
            DUE.is(run, 7, "message", m, 6);
            for (int what : Due.outside(0, 6)) {
                DUE.unchanged(run, -1, "message", m, what);
            }
        }
    }
}
