/** Promise 5: drop. */
public final class DropTest {
    private static final Due DUE = new Due();

    public static void main(String[] args) {
        DecreePool x = new DecreePool(1, 1, 5);
        for (int m : new int[] {-1, 0, 4, 5, Integer.MIN_VALUE, Integer.MAX_VALUE}) {
            DUE.is("drop(" + m + ") of nothing", x.drop(m), -1);
        }
        DUE.is("count(5)", x.count(5), 0);
        for (int kind = 1; kind <= 4; kind++) {
            x.prepare(0, 0, kind, 6);
            x.sweep(kind - 1);
            DUE.is("drop(0)", x.drop(0), kind);
            DUE.is("drop(0) again", x.drop(0), -1);
            DUE.is("count(0)", x.count(0), 0);
            DUE.is("count(5)", x.count(5), kind);
        }
        Due.decide(x, 0, 0, 9, 6);
        x.tell(0, 0);
        int delivered = x.count(4);
        x.crash(0);
        DUE.is("drop(0) of what goes to a node that is down", x.drop(0), 5);
        DUE.is("count(5)", x.count(5), 5);
        DUE.is("count(4): no delivery", x.count(4), delivered);
        othersStay();
        DUE.end();
    }

    private static void othersStay() {
        DecreePool x = new DecreePool(3, 1, 5);
        x.prepare(0, 0, 0, 6);
        DUE.is("drop(1)", x.drop(1), 1);
        DUE.is("message(0, 2)", x.message(0, 2), 0);
        DUE.is("message(1, 0)", x.message(1, 0), -1);
        DUE.is("message(2, 2)", x.message(2, 2), 2);
        DUE.is("count(0)", x.count(0), 2);
        DUE.is("acceptor(1, 0, 0)", x.acceptor(1, 0, 0), -1);
    }
}
