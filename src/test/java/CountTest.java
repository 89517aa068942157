/** Promise 18: count. */
public final class CountTest {
    private static final Due DUE = new Due();

    public static void main(String[] args) {
        DecreePool x = new DecreePool(4, 3, 20);
        counts(x, 0, 4, 3, 20, 0, 0, 15);
        x.prepare(0, 0, 0, 6);
        counts(x, 4, 4, 3, 20, 0, 0, 15);
        x.deliver(0);
        counts(x, 4, 4, 3, 20, 1, 0, 15);
        x.deliver(0);
        counts(x, 3, 4, 3, 20, 2, 0, 15);
        x.duplicate(1);
        counts(x, 4, 4, 3, 20, 2, 0, 15);
        x.drop(0);
        counts(x, 3, 4, 3, 20, 2, 1, 15);
        x.crash(2);
        counts(x, 3, 4, 3, 20, 2, 1, 11);
        x.deliver(2);
        counts(x, 2, 4, 3, 20, 3, 2, 11);
        x.drop(2);
        x.deliver(2);
        x.sweep(0);
        x.sweep(101);
        counts(x, 2, 4, 3, 20, 3, 2, 11);
        x.crash(0);
        counts(x, 2, 4, 3, 20, 3, 2, 10);
        x.sweep(100);
        counts(x, 0, 4, 3, 20, 7, 4, 10);
        x.restart(2);
        counts(x, 0, 4, 3, 20, 7, 4, 14);
        for (int what : new int[] {-1, 7, Integer.MIN_VALUE, Integer.MAX_VALUE}) {
            DUE.is("count(" + what + ")", x.count(what), -1);
        }
        DUE.end();
    }

    private static void counts(DecreePool x, int... want) {
        for (int what = 0; what < 7; what++) {
            DUE.is("count(" + what + ")", x.count(what), want[what]);
        }
    }
}
