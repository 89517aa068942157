/** Promise 11: acceptor. */
public final class AcceptorTest {
    private static final Due DUE = new Due();

    public static void main(String[] args) {
        DecreePool x = new DecreePool(3, 2, 32);
        Due.decide(x, 1, 1, 2, 6);
        x.prepare(2, 1, 4, 9);
        x.deliver(0);
        DUE.is("acceptor(0, 1, 0)", x.acceptor(0, 1, 0), 14);
        DUE.is("acceptor(0, 1, 1)", x.acceptor(0, 1, 1), 7);
        DUE.is("acceptor(0, 1, 2)", x.acceptor(0, 1, 2), 6);
        DUE.is("acceptor(2, 1, 0)", x.acceptor(2, 1, 0), 7);
        DUE.is("acceptor(0, 0, 0)", x.acceptor(0, 0, 0), -1);
        DUE.is("acceptor(0, 0, 1)", x.acceptor(0, 0, 1), -1);
        DUE.is("acceptor(0, 0, 2)", x.acceptor(0, 0, 2), 0);
        x.crash(0);
        DUE.is("acceptor(0, 1, 0) while it is down", x.acceptor(0, 1, 0), 14);
        int[][] wrong = {{-1, 0, 2}, {3, 0, 2}, {0, -1, 2}, {0, 2, 2}, {0, 0, -1}, {0, 0, 3},
            {Integer.MIN_VALUE, 0, 2}, {Integer.MAX_VALUE, 0, 2},
            {0, Integer.MIN_VALUE, 2}, {0, Integer.MAX_VALUE, 2},
            {0, 0, Integer.MIN_VALUE}, {0, 0, Integer.MAX_VALUE}};
        for (int[] w : wrong) {
            DUE.is("acceptor" + java.util.Arrays.toString(w), x.acceptor(w[0], w[1], w[2]), -1);
        }
        DUE.end();
    }
}
