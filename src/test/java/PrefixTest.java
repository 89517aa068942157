/** Promise 16: prefix. */
public final class PrefixTest {
    private static final Due DUE = new Due();

    public static void main(String[] args) {
        DecreePool x = new DecreePool(3, 4, 32);
        for (int node : new int[] {-1, 3, Integer.MIN_VALUE, Integer.MAX_VALUE}) {
            DUE.is("prefix(" + node + ")", x.prefix(node), -1);
        }
        DUE.is("prefix(0)", x.prefix(0), 0);
        Due.decide(x, 0, 1, 0, 6);
        DUE.is("prefix(0): slot 0 is a gap", x.prefix(0), 0);
        x.crash(2);
        Due.decide(x, 0, 0, 0, 6);
        DUE.is("prefix(0)", x.prefix(0), 2);
        DUE.is("prefix(2)", x.prefix(2), 0);
        Due.decide(x, 0, 3, 0, 6);
        DUE.is("prefix(0): slot 2 is a gap", x.prefix(0), 2);
        Due.decide(x, 0, 2, 0, 6);
        DUE.is("prefix(0)", x.prefix(0), 4);
        DUE.is("prefix(1)", x.prefix(1), 4);
        DUE.is("prefix(2)", x.prefix(2), 0);
        x.crash(0);
        DUE.is("prefix(0) while it is down", x.prefix(0), 4);
        x.restart(0);
        DUE.is("prefix(0)", x.prefix(0), 0);
        DUE.end();
    }
}
