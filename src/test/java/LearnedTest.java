/** Promise 10: learned. */
public final class LearnedTest {
    private static final Due DUE = new Due();

    public static void main(String[] args) {
        whatIsLearned();
        nothing();
        noSuchNode();
        noSuchSlot();
        DUE.end();
    }

    private static void whatIsLearned() {
        DUE.of("What a node has learned for a slot");
        for (int value : new int[] {1, 6, Integer.MAX_VALUE}) {
            Run run = Run.of(3, 2, 32).decide(1, 1, 0, value);
            for (int node = 0; node < 3; node++) {
                DUE.unchanged(run, value, "learned", node, 1);
                DUE.is(run.decide(0, 1, 5, 8), value, "learned", node, 1);
            }
        }
    }

    private static void nothing() {
        DUE.of("0 for nothing");
        Run run = Run.of(3, 2, 32).crash(2).decide(1, 1, 0, 6);
        DUE.is(run, 6, "learned", 0, 1);
        DUE.is(run, 6, "learned", 1, 1);
        DUE.unchanged(run, 0, "learned", 2, 1);
        DUE.is(run, 0, "learned", 0, 0);
        DUE.is(run, 0, "learned", 1, 0);
        DUE.is(run.restart(2), 0, "learned", 2, 1);
        DUE.is(run.restart(2).decide(2, 1, 6, 8), 6, "learned", 2, 1);
    }

    private static void noSuchNode() {
        DUE.of("NONE: no such node");
        for (int n = 1; n <= 5; n++) {
            Run run = Run.busy(n, 2, 20);
            DUE.is(run, 6, "learned", 0, 0);
            DUE.is(run, 6, "learned", n - 1, 0);
            for (int node : Due.outside(0, n - 1)) {
                DUE.unchanged(run, -1, "learned", node, 0);
            }
        }
    }

    private static void noSuchSlot() {
        DUE.of("NONE: no such slot");
        for (int slots = 1; slots <= 4; slots++) {
            Run run = Run.of(3, slots, 20).decide(0, 0, 0, 6).decide(0, slots - 1, 1, 6);
            for (int node = 0; node < 3; node++) {
                DUE.is(run, 6, "learned", node, 0);
                DUE.is(run, 6, "learned", node, slots - 1);
                for (int slot : Due.outside(0, slots - 1)) {
                    DUE.unchanged(run, -1, "learned", node, slot);
                }
            }
        }
    }
}
