/** Promise 13: heard. */
public final class HeardTest {
    private static final Due DUE = new Due();

    public static void main(String[] args) {
        DecreePool x = new DecreePool(3, 2, 32);
        x.crash(2);
        Due.decide(x, 1, 1, 2, 6);
        DUE.is("heard(0, 1, 0): of itself, too", x.heard(0, 1, 0), 7);
        DUE.is("heard(0, 1, 1)", x.heard(0, 1, 1), 7);
        DUE.is("heard(0, 1, 2): it was down", x.heard(0, 1, 2), -1);
        DUE.is("heard(2, 1, 0)", x.heard(2, 1, 0), -1);
        DUE.is("heard(0, 0, 1)", x.heard(0, 0, 1), -1);
        x.restart(2);
        Due.decide(x, 0, 1, 3, 8);
        DUE.is("heard(1, 1, 2): the greatest", x.heard(1, 1, 2), 9);
        DUE.is("heard(1, 1, 0)", x.heard(1, 1, 0), 9);
        x.crash(1);
        DUE.is("heard(1, 1, 0) while it is down", x.heard(1, 1, 0), 9);
        x.restart(1);
        DUE.is("heard(1, 1, 0)", x.heard(1, 1, 0), -1);
        int[][] wrong = {{-1, 1, 0}, {3, 1, 0}, {0, -1, 0}, {0, 2, 0}, {0, 1, -1}, {0, 1, 3},
            {Integer.MIN_VALUE, 1, 0}, {Integer.MAX_VALUE, 1, 0},
            {0, Integer.MIN_VALUE, 0}, {0, Integer.MAX_VALUE, 0},
            {0, 1, Integer.MIN_VALUE}, {0, 1, Integer.MAX_VALUE}};
        for (int[] w : wrong) {
            DUE.is("heard" + java.util.Arrays.toString(w), x.heard(w[0], w[1], w[2]), -1);
        }
        DUE.end();
    }
}
