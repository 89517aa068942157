/** Promise 10: learned. */
public final class LearnedTest {
    private static final Due DUE = new Due();

    public static void main(String[] args) {
        DecreePool x = new DecreePool(3, 2, 32);
        int[][] wrong = {{-1, 0}, {3, 0}, {0, -1}, {0, 2},
            {Integer.MIN_VALUE, 0}, {Integer.MAX_VALUE, 0},
            {0, Integer.MIN_VALUE}, {0, Integer.MAX_VALUE}};
        for (int[] w : wrong) {
            DUE.is("learned(" + w[0] + ", " + w[1] + ")", x.learned(w[0], w[1]), -1);
        }
        x.crash(2);
        Due.decide(x, 1, 1, 0, 6);
        DUE.is("learned(0, 1)", x.learned(0, 1), 6);
        DUE.is("learned(1, 1)", x.learned(1, 1), 6);
        DUE.is("learned(2, 1)", x.learned(2, 1), 0);
        DUE.is("learned(1, 0)", x.learned(1, 0), 0);
        Due.decide(x, 0, 1, 5, 8);
        DUE.is("learned(0, 1): another wish changes nothing", x.learned(0, 1), 6);
        x.restart(2);
        DUE.is("learned(2, 1)", x.learned(2, 1), 0);
        Due.decide(x, 2, 1, 6, 8);
        DUE.is("learned(2, 1)", x.learned(2, 1), 6);
        Due.decide(x, 2, 0, 0, Integer.MAX_VALUE);
        DUE.is("learned(0, 0)", x.learned(0, 0), Integer.MAX_VALUE);
        DUE.end();
    }
}
