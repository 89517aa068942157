/** The edges of the calls that take the message in a place, and nothing else: the places. */
final class PlaceEdges {
    private final Due due;
    private final String name;

    PlaceEdges(Due due, String name) {
        this.due = due;
        this.name = name;
    }

    void noSuchPlace() {
        due.of("NONE there is no such place");
        for (int places : new int[] {5, 6, 32, 63, 64}) {
            Run full = Run.of(1, 1, places).prepare(0, 0, 0, 4).leaving(0, 0);
            Run oneEmpty = full.drop(1);
            due.is(oneEmpty, 1, name, 0);
            due.is(oneEmpty, 1, name, places - 1);
            for (int m : Due.outside(0, places - 1)) {
                due.unchanged(oneEmpty, -1, name, m);
                due.unchanged(full, -1, name, m);
            }
        }
    }

    void noMessageInIt() {
        due.of("NONE there is no message in it");
        Run run = Run.of(3, 1, 6).prepare(0, 0, 0, 4);
        for (int m = 0; m < 3; m++) {
            due.unchanged(run.drop(m), -1, name, m);
        }
        for (int m = 3; m < 6; m++) {
            due.unchanged(run, -1, name, m);
        }
        due.unchanged(run.deliver(0, 0), -1, name, 0);
    }
}
