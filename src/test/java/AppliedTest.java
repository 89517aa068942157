/** Promise 17: applied. */
public final class AppliedTest {
    private static final Due DUE = new Due();
    private static final int MAX = Integer.MAX_VALUE;

    public static void main(String[] args) {
        runs(1L, 7);
        runs(8L, 8);
        runs(6L, 7, 5);
        runs(41L, 8, 5);
        runs(12L, 8, 4);
        runs(47L, 8, 5, 6);
        runs(142L, 8, 5, 6, 3);
        runs(2L, 1, 1);
        // As longs: beyond an int, and, with four slots, round beyond a long.
        runs(2L * (MAX - 1), MAX - 1, MAX - 1);
        runs((long) (MAX - 1) * MAX + 1L, MAX - 1, MAX);
        long third = ((long) (MAX - 1) * MAX + 1L) * MAX + 1L;
        runs(third, MAX - 1, MAX, MAX);
        runs(third * (MAX - 2) + 1L, MAX - 1, MAX, MAX, MAX - 2);
        theGapEndsIt();
        for (int node : new int[] {-1, 3, Integer.MIN_VALUE, MAX}) {
            DUE.is("applied(" + node + ")", new DecreePool(3, 1, 8).applied(node), 0);
        }
        DUE.end();
    }

    private static void runs(long want, int... values) {
        DecreePool x = new DecreePool(3, 4, 32);
        for (int slot = 0; slot < values.length; slot++) {
            Due.decide(x, 1, slot, 0, values[slot]);
        }
        DUE.is("applied(2) of " + java.util.Arrays.toString(values), x.applied(2), want);
    }

    private static void theGapEndsIt() {
        DecreePool x = new DecreePool(3, 3, 32);
        Due.decide(x, 0, 0, 0, 6);
        Due.decide(x, 0, 2, 0, 8);
        DUE.is("applied(0)", x.applied(0), 6);
        x.crash(0);
        DUE.is("applied(0) while it is down", x.applied(0), 6);
        x.restart(0);
        DUE.is("applied(0)", x.applied(0), 0);
        DUE.is("applied(1)", x.applied(1), 6);
    }
}
