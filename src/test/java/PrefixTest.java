/** Promise 16: prefix. */
public final class PrefixTest {
    private static final Due DUE = new Due();

    public static void main(String[] args) {
        withoutAGap();
        ofThatNode();
        noSuchNode();
        DUE.end();
    }

    private static void withoutAGap() {
        DUE.of("how many slots from 0 on have learned values without a gap");
        for (int slots = 1; slots <= 4; slots++) {
            for (int bits = 0; bits < 1 << slots; bits++) {
                Run run = Run.of(2, slots, 16);
                for (int slot = 0; slot < slots; slot++) {
                    run = (bits >> slot & 1) == 0 ? run : run.decide(1, slot, 0, 7);
                }
                int want = Integer.numberOfTrailingZeros(~bits);
                DUE.unchanged(run, want, "prefix", 0);
                DUE.unchanged(run, want, "prefix", 1);
            }
        }
    }

    private static void ofThatNode() {
        DUE.of("The prefix of a node");
        Run run = Run.of(3, 4, 32).decide(0, 0, 0, 6).crash(2).decide(0, 1, 0, 6);
        DUE.is(run, 2, "prefix", 0);
        DUE.is(run, 2, "prefix", 1);
        DUE.is(run, 1, "prefix", 2);
        DUE.is(run.restart(2), 0, "prefix", 2);
        // The learned values count, and not what is chosen.
        Run chosen = Run.of(3, 1, 16).elect(0, 0, 0, 6).hand(3, 0, 0, 0).hand(3, 0, 1, 0);
        DUE.is(chosen, 6, "chosen", 0);
        DUE.is(chosen, 0, "prefix", 0);
    }

    private static void noSuchNode() {
        DUE.of("NONE: no such node");
        for (int n = 1; n <= 5; n++) {
            Run run = Run.busy(n, 2, 20);
            DUE.is(run, 1, "prefix", 0);
            DUE.is(run, 1, "prefix", n - 1);
            for (int node : Due.outside(0, n - 1)) {
                DUE.unchanged(run, -1, "prefix", node);
            }
        }
    }
}
