/** Counts the calls whose answer is not the one that is due, and prints each. */
final class Due {
    private int wrong = 0;
    private int calls = 0;

    void is(String call, long got, long want) {
        calls++;
        if (got != want) {
            wrong++;
            System.out.println(call + " answered " + got + ", due is " + want);
        }
    }

    /** Ends the test: with exit code 1 if an answer was wrong, or if there was none at all. */
    void end() {
        System.out.println(wrong + " of " + calls + " answers are not as due");
        if (wrong != 0 || calls == 0) {
            System.exit(1);
        }
    }

    /** Lets a node bring a value through for a slot, with all that this sends. */
    static void decide(DecreePool x, int node, int slot, int round, int value) {
        x.prepare(node, slot, round, value);
        while (x.sweep(100) > 0) {
            // until nothing is left that can be delivered
        }
    }
}
