/** Promise 8: restart. */
public final class RestartTest {
    private static final Due DUE = new Due();

    public static void main(String[] args) {
        wrongInputs();
        allSlotsOfTheNodeAlone();
        phaseOneIsForgotten();
        acceptorsHold();
        DUE.end();
    }

    private static void wrongInputs() {
        DecreePool x = new DecreePool(3, 2, 16);
        Due.decide(x, 0, 0, 0, 6);
        for (int node : new int[] {-1, 0, 2, 3, Integer.MIN_VALUE, Integer.MAX_VALUE}) {
            DUE.is("restart(" + node + ")", x.restart(node), -1);
        }
        DUE.is("learned(0, 0): refused, nothing changed", x.learned(0, 0), 6);
        DUE.is("proposer(0, 0, 0)", x.proposer(0, 0, 0), 2);
        x.crash(0);
        x.crash(1);
        DUE.is("restart(1)", x.restart(1), 2);
        DUE.is("restart(1) again", x.restart(1), -1);
        DUE.is("count(6)", x.count(6), 6);
        DUE.is("restart(0)", x.restart(0), 3);
        DUE.is("count(6)", x.count(6), 7);
    }

    private static void allSlotsOfTheNodeAlone() {
        DecreePool x = new DecreePool(3, 4, 32);
        for (int slot = 0; slot < 4; slot++) {
            Due.decide(x, 1, slot, slot, 10 + slot);
        }
        DUE.is("prefix(1)", x.prefix(1), 4);
        x.crash(1);
        x.restart(1);
        DUE.is("prefix(1)", x.prefix(1), 0);
        for (int slot = 0; slot < 4; slot++) {
            DUE.is("learned(1, slot)", x.learned(1, slot), 0);
            DUE.is("proposer(1, slot, 0)", x.proposer(1, slot, 0), 0);
            DUE.is("proposer(1, slot, 1)", x.proposer(1, slot, 1), 3 * slot + 1);
            DUE.is("proposer(1, slot, 2)", x.proposer(1, slot, 2), 0);
            DUE.is("proposer(1, slot, 3)", x.proposer(1, slot, 3), -1);
            DUE.is("proposer(1, slot, 4)", x.proposer(1, slot, 4), 0);
            DUE.is("acceptor(1, slot, 0)", x.acceptor(1, slot, 0), 3 * slot + 1);
            DUE.is("acceptor(1, slot, 1)", x.acceptor(1, slot, 1), 3 * slot + 1);
            DUE.is("acceptor(1, slot, 2)", x.acceptor(1, slot, 2), 10 + slot);
            for (int of = 0; of < 3; of++) {
                DUE.is("heard(1, slot, of)", x.heard(1, slot, of), -1);
                DUE.is("heard(2, slot, of)", x.heard(2, slot, of), 3 * slot + 1);
                DUE.is("heard(0, slot, of)", x.heard(0, slot, of), 3 * slot + 1);
            }
            DUE.is("learned(0, slot)", x.learned(0, slot), 10 + slot);
            DUE.is("learned(2, slot)", x.learned(2, slot), 10 + slot);
        }
    }

    private static void phaseOneIsForgotten() {
        DecreePool x = new DecreePool(5, 1, 64);
        Due.decide(x, 0, 0, 0, 6);
        x.prepare(1, 0, 2, 8);
        x.deliver(0);
        x.deliver(0);
        DUE.is("proposer(1, 0, 2)", x.proposer(1, 0, 2), 1);
        DUE.is("proposer(1, 0, 3)", x.proposer(1, 0, 3), 0);
        x.crash(1);
        DUE.is("proposer(1, 0, 2) while it is down", x.proposer(1, 0, 2), 1);
        x.restart(1);
        DUE.is("proposer(1, 0, 0)", x.proposer(1, 0, 0), 0);
        DUE.is("proposer(1, 0, 1)", x.proposer(1, 0, 1), 11);
        DUE.is("proposer(1, 0, 2)", x.proposer(1, 0, 2), 0);
        DUE.is("proposer(1, 0, 3)", x.proposer(1, 0, 3), -1);
        x.sweep(100);
        DUE.is("proposer(1, 0, 0): its promises come too late", x.proposer(1, 0, 0), 0);
        DUE.is("prepare(1, 0, 2, 8)", x.prepare(1, 0, 2, 8), DecreePool.OLD);
        DUE.is("prepare(1, 0, 3, 8)", x.prepare(1, 0, 3, 8), 16);
    }

    private static void acceptorsHold() {
        DecreePool x = new DecreePool(3, 1, 16);
        x.prepare(2, 0, 5, 6);
        x.deliver(0);
        x.crash(0);
        x.restart(0);
        DUE.is("acceptor(0, 0, 0)", x.acceptor(0, 0, 0), 17);
        x.prepare(0, 0, 1, 8);
        int before = x.count(0);
        DUE.is("message(3, 2)", x.message(3, 2), 0);
        DUE.is("deliver(3)", x.deliver(3), 1);
        DUE.is("count(0): no promise of less", x.count(0), before - 1);
    }
}
