import java.util.Arrays;
import java.util.List;

/** Counts the calls whose answer is not the one that is due, and prints each. */
final class Due {
    private int wrong = 0;
    private int calls = 0;
    private String sentence = "";

    /** Names the sentence of the document that the calls from here on test. */
    void of(String words) {
        sentence = "'" + words + "': ";
    }

    void is(String call, long got, long want) {
        calls++;
        if (got != want) {
            wrong++;
            System.out.println(sentence + call + " answered " + got + ", due is " + want);
        }
    }

    /** What a call behind a run answers. */
    void is(Run run, long want, String name, int... args) {
        Call call = new Call(name, args);
        is(run + " " + call, run.answer(call), want);
    }

    /** A call that is refused, or only looks: its answer, and nothing has changed behind it. */
    void unchanged(Run run, long want, String name, int... args) {
        is(run, want, name, args);
        alike(run.then(name, args), run);
    }

    /** Two runs that leave the same behind, as later calls show it. */
    void alike(Run run, Run as) {
        List<List<Long>> got = run.outcomes();
        List<List<Long>> want = as.outcomes();
        for (int i = 0; i < want.size(); i++) {
            same(run, got.get(i), as, want.get(i));
        }
    }

    /** Two runs that leave the same behind but for the number of deliveries. */
    void alikeButDeliveries(Run run, Run as) {
        List<List<Long>> got = run.outcomes();
        List<List<Long>> want = as.outcomes();
        for (int i = 0; i < want.size(); i += 2) {
            List<Long> view = want.get(i + 1);
            same(run, got.get(i), as, want.get(i));
            same(run, got.get(i + 1).subList(0, view.size() - 1), as,
                    view.subList(0, view.size() - 1));
        }
    }

    private void same(Run run, List<Long> got, Run as, List<Long> want) {
        boolean same = got.equals(want);
        is(same ? "" : run + " shows " + got + ", " + as + " shows " + want
                + ": whether they are alike", same ? 1 : 0, 1);
    }

    /** Ends the test: with exit code 1 if an answer was wrong, or if there was none at all. */
    void end() {
        System.out.println(wrong + " of " + calls + " answers are not as due");
        if (wrong != 0 || calls == 0) {
            System.exit(1);
        }
    }

    /**
     * Numbers outside the bounds: the next ones, those far away, and those that come back within
     * them when a shift, a product or a sum wraps around.
     */
    static int[] outside(int least, int greatest) {
        int[] some = {
            least - 1, greatest + 1, least - 2, greatest + 2, Integer.MIN_VALUE, Integer.MAX_VALUE,
            Integer.MIN_VALUE + 1, Integer.MAX_VALUE - 1, -32, -31, 32, 33, 64, 256,
            1 << 29, 1 << 30, (1 << 30) + 1, 3 << 30, 613566757, -613566756, 1431655766, 858993460,
        };
        return Arrays.stream(some).filter(x -> x < least || x > greatest).distinct().toArray();
    }
}
