import java.util.Random;

/**
 * Promises 1 to 18: runs of calls drawn from fixed seeds, each answer compared with the plain
 * model's, and no two nodes may ever have learned different decrees for a slot.
 */
public final class RandomRunsTest {
    private static final int RUNS = 6000;
    private static final int CALLS = 512;
    private static final Due DUE = new Due();

    private final Random random;
    private final DecreePool x;
    private final PlainModel y;
    private final int[] decree = new int[4];
    private int calls = 0;

    private RandomRunsTest(long seed) {
        random = new Random(seed);
        int n = near(1, 5);
        int slots = near(1, 4);
        int places = random.nextBoolean() ? near(5, 12) : near(5, 64);
        x = new DecreePool(n, slots, places);
        y = new PlainModel(n, slots, places);
    }

    public static void main(String[] args) {
        for (long seed = 1; seed <= RUNS; seed++) {
            RandomRunsTest run = new RandomRunsTest(seed);
            while (run.calls < CALLS) {
                run.change(seed);
                run.look(seed);
            }
        }
        DUE.end();
    }

    /** Mostly within the bounds, now and then just outside or far away. */
    private int near(int least, int greatest) {
        int kind = random.nextInt(40);
        if (kind == 0) {
            return least - 1;
        }
        if (kind == 1) {
            return greatest + 1;
        }
        if (kind == 2) {
            return random.nextInt();
        }
        return least + random.nextInt(greatest - least + 1);
    }

    private int node() {
        return near(0, y.count(1) - 1);
    }

    private int slot() {
        return near(0, y.count(2) - 1);
    }

    private int place() {
        int m = near(0, y.count(3) - 1);
        for (int tries = 0; tries < 6 && y.message(m, 0) == -1; tries++) {
            m = near(0, y.count(3) - 1);
        }
        return m;
    }

    private void due(long seed, String call, long got, long want) {
        calls++;
        DUE.is("seed " + seed + ", call " + calls + ": " + call, got, want);
    }

    private void change(long seed) {
        int m = place();
        int node = node();
        int slot = slot();
        int kind = random.nextInt(100);
        if (kind < 14) {
            int round = random.nextInt(8) == 0 ? near(0, 1000) : near(0, 1 + calls / 30);
            int value = random.nextInt(4) == 0 ? near(1, Integer.MAX_VALUE - 1) : near(1, 9);
            due(seed, "prepare(" + node + ", " + slot + ", " + round + ", " + value + ")",
                    x.prepare(node, slot, round, value), y.prepare(node, slot, round, value));
        } else if (kind < 66) {
            due(seed, "deliver(" + m + ")", x.deliver(m), y.deliver(m));
        } else if (kind < 72) {
            int k = random.nextInt(3) == 0 ? near(0, 100) : near(0, 4);
            due(seed, "sweep(" + k + ")", x.sweep(k), y.sweep(k));
        } else if (kind < 78) {
            due(seed, "drop(" + m + ")", x.drop(m), y.drop(m));
        } else if (kind < 86) {
            due(seed, "duplicate(" + m + ")", x.duplicate(m), y.duplicate(m));
        } else if (kind < 90) {
            due(seed, "crash(" + node + ")", x.crash(node), y.crash(node));
        } else if (kind < 96) {
            due(seed, "restart(" + node + ")", x.restart(node), y.restart(node));
        } else {
            due(seed, "tell(" + node + ", " + slot + ")", x.tell(node, slot), y.tell(node, slot));
        }
    }

    private void look(long seed) {
        int node = node();
        int slot = slot();
        int what = near(0, 6);
        String at = "(" + node + ", " + slot;
        switch (random.nextInt(9)) {
            case 0 -> {
                int learned = x.learned(node, slot);
                due(seed, "learned" + at + ")", learned, y.learned(node, slot));
                agree(seed, slot, learned);
            }
            case 1 -> due(seed, "acceptor" + at + ", " + what + ")",
                    x.acceptor(node, slot, what), y.acceptor(node, slot, what));
            case 2 -> due(seed, "proposer" + at + ", " + what + ")",
                    x.proposer(node, slot, what), y.proposer(node, slot, what));
            case 3 -> {
                int of = node();
                due(seed, "heard" + at + ", " + of + ")", x.heard(node, slot, of),
                        y.heard(node, slot, of));
            }
            case 4 -> {
                int m = place();
                due(seed, "message(" + m + ", " + what + ")", x.message(m, what),
                        y.message(m, what));
            }
            case 5 -> due(seed, "chosen(" + slot + ")", x.chosen(slot), y.chosen(slot));
            case 6 -> due(seed, "prefix(" + node + ")", x.prefix(node), y.prefix(node));
            case 7 -> due(seed, "applied(" + node + ")", x.applied(node), y.applied(node));
            default -> due(seed, "count(" + what + ")", x.count(what), y.count(what));
        }
    }

    private void agree(long seed, int slot, int learned) {
        if (learned <= 0) {
            return;
        }
        if (decree[slot] == 0) {
            decree[slot] = learned;
        }
        DUE.is("seed " + seed + ": the decree of slot " + slot, learned, decree[slot]);
    }
}
