/** Promise 6: duplicate. */
public final class DuplicateTest {
    private static final Due DUE = new Due();

    public static void main(String[] args) {
        places();
        everyFieldOfEachKind();
        DUE.end();
    }

    private static void places() {
        DecreePool x = new DecreePool(3, 1, 5);
        for (int m : new int[] {-1, 0, 4, 5, Integer.MIN_VALUE, Integer.MAX_VALUE}) {
            DUE.is("duplicate(" + m + ") of nothing", x.duplicate(m), -1);
        }
        x.prepare(0, 0, 0, 6);
        DUE.is("duplicate(2)", x.duplicate(2), 3);
        x.drop(0);
        DUE.is("duplicate(3): the least empty place", x.duplicate(3), 0);
        DUE.is("duplicate(1): the last place", x.duplicate(1), 4);
        DUE.is("count(0)", x.count(0), 5);
        DUE.is("duplicate(0)", x.duplicate(0), DecreePool.FULL);
        DUE.is("duplicate(5): NONE before FULL", x.duplicate(5), -1);
        DUE.is("count(0)", x.count(0), 5);
        DUE.is("count(4)", x.count(4), 0);
        DUE.is("count(5): what was dropped", x.count(5), 1);
    }

    private static void everyFieldOfEachKind() {
        for (int kind = 1; kind <= 5; kind++) {
            DecreePool x = new DecreePool(3, 2, 16);
            Due.decide(x, 1, 1, 2, 6);
            if (kind == 5) {
                x.tell(2, 1);
            } else {
                x.prepare(2, 1, 3, 8);
            }
            for (int m = 0; m < 16 && x.message(0, 0) != kind; m++) {
                x.sweep(1);
            }
            DUE.is("message(0, 0)", x.message(0, 0), kind);
            int place = x.duplicate(0);
            for (int what = 0; what < 7; what++) {
                DUE.is("kind " + kind + ": message(" + place + ", " + what + ")",
                        x.message(place, what), x.message(0, what));
            }
        }
    }
}
