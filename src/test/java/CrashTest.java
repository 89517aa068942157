/** Promise 7: crash. */
public final class CrashTest {
    private static final Due DUE = new Due();

    public static void main(String[] args) {
        DecreePool x = new DecreePool(3, 2, 16);
        for (int node : new int[] {-1, 3, Integer.MIN_VALUE, Integer.MAX_VALUE}) {
            DUE.is("crash(" + node + ")", x.crash(node), -1);
        }
        DUE.is("count(6)", x.count(6), 7);
        Due.decide(x, 0, 0, 0, 6);
        x.prepare(0, 1, 0, 8);
        DUE.is("crash(0)", x.crash(0), 2);
        DUE.is("crash(0) again", x.crash(0), -1);
        DUE.is("count(6)", x.count(6), 6);
        DUE.is("count(0): what it sent is still there", x.count(0), 3);
        DUE.is("learned(0, 0): until it comes back", x.learned(0, 0), 6);
        DUE.is("heard(0, 0, 2)", x.heard(0, 0, 2), 0);
        DUE.is("proposer(0, 0, 0)", x.proposer(0, 0, 0), 2);
        DUE.is("proposer(0, 0, 4)", x.proposer(0, 0, 4), 6);
        DUE.is("proposer(0, 1, 0)", x.proposer(0, 1, 0), 1);
        DUE.is("acceptor(0, 0, 2)", x.acceptor(0, 0, 2), 6);
        DUE.is("prefix(0)", x.prefix(0), 1);
        DUE.is("applied(0)", x.applied(0), 6);
        DUE.is("prepare(0, 1, 1, 8)", x.prepare(0, 1, 1, 8), DecreePool.DOWN);
        DUE.is("crash(2)", x.crash(2), 1);
        DUE.is("crash(1)", x.crash(1), 0);
        DUE.is("count(6)", x.count(6), 0);
        DUE.end();
    }
}
