/** Promise 14: message. */
public final class MessageTest {
    private static final Due DUE = new Due();

    public static void main(String[] args) {
        DecreePool x = new DecreePool(3, 2, 16);
        Due.decide(x, 1, 1, 2, 6);
        x.prepare(2, 1, 3, 8);
        fields(x, 0, 1, 2, 0, 1, 11, 0, -1);
        x.deliver(0);
        fields(x, 0, 2, 0, 2, 1, 11, 6, 7);
        x.deliver(0);
        x.deliver(1);
        x.deliver(0);
        fields(x, 1, 3, 2, 1, 1, 11, 6, -1);
        x.deliver(1);
        fields(x, 1, 4, 1, 0, 1, 11, 6, -1);
        x.tell(0, 1);
        fields(x, 6, 5, 0, 0, 1, -1, 6, -1);
        for (int what : new int[] {-1, 7, Integer.MIN_VALUE, Integer.MAX_VALUE}) {
            DUE.is("message(0, " + what + ")", x.message(0, what), -1);
        }
        x.drop(0);
        for (int m : new int[] {-1, 0, 15, 16, Integer.MIN_VALUE, Integer.MAX_VALUE}) {
            for (int what = -1; what <= 7; what++) {
                DUE.is("message(" + m + ", " + what + ")", x.message(m, what), -1);
            }
        }
        DUE.end();
    }

    private static void fields(DecreePool x, int m, int... want) {
        for (int what = 0; what < 7; what++) {
            DUE.is("message(" + m + ", " + what + ")", x.message(m, what), want[what]);
        }
    }
}
