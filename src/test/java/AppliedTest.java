import java.math.BigInteger;

/** Promise 17: applied. */
public final class AppliedTest {
    private static final Due DUE = new Due();
    private static final int MAX = Integer.MAX_VALUE;

    public static void main(String[] args) {
        emptyPrefix();
        evenAndOdd();
        asLongs();
        theGapEndsIt();
        noSuchNode();
        DUE.end();
    }

    private static Run decided(int... values) {
        Run run = Run.of(3, 4, 32);
        for (int slot = 0; slot < values.length; slot++) {
            run = run.decide(1, slot, 0, values[slot]);
        }
        return run;
    }

    private static void emptyPrefix() {
        DUE.of("What a node's prefix comes to, applied to 0: of an empty one");
        DUE.unchanged(Run.of(3, 2, 32), 0, "applied", 0);
        DUE.unchanged(decided().decide(1, 1, 0, 7), 0, "applied", 0);
        DUE.is(decided(7).crash(0).restart(0), 0, "applied", 0);
    }

    private static void evenAndOdd() {
        DUE.of("an even value is added, an odd one is multiplied with what there is, and 1 added");
        DUE.is(decided(1), 1, "applied", 2);
        DUE.is(decided(2), 2, "applied", 2);
        DUE.is(decided(7), 1, "applied", 2);
        DUE.is(decided(8), 8, "applied", 2);
        DUE.is(decided(7, 5), 6, "applied", 2);
        DUE.is(decided(8, 5), 41, "applied", 2);
        DUE.is(decided(5, 8), 9, "applied", 2);
        DUE.is(decided(8, 4), 12, "applied", 2);
        DUE.is(decided(8, 5, 6), 47, "applied", 2);
        DUE.is(decided(8, 5, 6, 3), 142, "applied", 2);
        DUE.is(decided(1, 1, 1, 1), 4, "applied", 2);
        DUE.unchanged(decided(8, 5, 6, 3), 142, "applied", 0);
    }

    private static void asLongs() {
        DUE.of("(as longs)");
        DUE.is(decided(MAX - 1, 1), MAX, "applied", 2);
        DUE.is(decided(MAX - 1, 2), MAX + 1L, "applied", 2);
        DUE.is(decided(4, 1073951285, 2147064807, 884003018), Long.MAX_VALUE - 1, "applied", 2);
        DUE.is(decided(4, 1073951285, 2147064807, 884003020), Long.MIN_VALUE, "applied", 2);
        int[][] runs = {
            {MAX - 1, MAX - 1}, {2, MAX}, {65536, 32767}, {65536, 32769}, {MAX - 1, MAX},
            {MAX - 1, MAX, 2}, {2, MAX, MAX}, {4, MAX, MAX}, {MAX - 1, MAX, 3}, {MAX - 1, MAX, MAX},
            {MAX - 1, MAX, MAX, MAX - 2}, {MAX - 1, MAX, MAX, MAX - 1},
            {MAX - 1, MAX - 2, MAX - 4, MAX - 6}, {MAX, MAX, MAX, MAX}, {MAX - 1, MAX, 1, 3},
        };
        for (int[] values : runs) {
            DUE.is(decided(values), exact(values).longValue(), "applied", 2);
        }
    }

    private static BigInteger exact(int... values) {
        BigInteger register = BigInteger.ZERO;
        for (int value : values) {
            BigInteger next = BigInteger.valueOf(value);
            register = next.testBit(0) ? register.multiply(next).add(BigInteger.ONE)
                    : register.add(next);
        }
        return register;
    }

    private static void theGapEndsIt() {
        DUE.of("THE PREFIX .. without a gap. APPLIED to 0, these decrees");
        Run run = decided(6).decide(0, 2, 0, 8);
        DUE.is(run, 6, "applied", 0);
        DUE.is(run.crash(0), 6, "applied", 0);
        DUE.is(run.crash(0).restart(0), 0, "applied", 0);
        DUE.is(run.crash(0).restart(0), 6, "applied", 1);
        DUE.is(run.decide(0, 1, 1, 5), 39, "applied", 0);
    }

    private static void noSuchNode() {
        DUE.of("0 also when there is no such node");
        for (int n = 1; n <= 5; n++) {
            Run run = Run.busy(n, 2, 20);
            DUE.is(run, 6, "applied", 0);
            DUE.is(run, 6, "applied", n - 1);
            for (int node : Due.outside(0, n - 1)) {
                DUE.unchanged(run, 0, "applied", node);
            }
        }
    }
}
