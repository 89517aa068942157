import java.util.Arrays;

/**
 * Nodes that agree on a decree for each slot by ballots, over a pool of messages that are
 * delivered in any order, lost and doubled, while nodes crash and come back.
 *
 * <p>The part that a node plays for a slot (proposer, acceptor, learner) has one number, its seat.
 * All rows are made in the constructor, so that no call makes an object.
 */
public final class DecreePool {
    public static final int NONE = -1;
    public static final int DOWN = -2;
    public static final int OLD = -3;
    public static final int FULL = -4;

    private static final int NO_BALLOT = -1;
    private static final int NO_VALUE = 0;
    private static final int GREATEST_ROUND = 1000;
    private static final int LONGEST_SWEEP = 100;

    private static final int NO_MESSAGE = 0;
    private static final int PREPARE = 1;
    private static final int PROMISE = 2;
    private static final int ACCEPT = 3;
    private static final int ACCEPTED = 4;
    private static final int TOLD = 5;

    // The numbers by which message() tells a message's fields, and their order in the pool's rows.
    private static final int KIND = 0;
    private static final int SENDER = 1;
    private static final int RECEIVER = 2;
    private static final int SLOT = 3;
    private static final int BALLOT = 4;
    private static final int VALUE = 5;
    private static final int ACCEPTED_BALLOT = 6;
    private static final int FIELDS = 7;

    private static final int IDLE = 0;
    private static final int PREPARING = 1;
    private static final int ACCEPTING = 2;

    private final int nodes;
    private final int slots;
    private final Pool pool;
    private final Proposers proposers;
    private final Acceptors acceptors;
    private final Learners learners;
    private int upBits;
    private int deliveries;
    private int lost;

    public DecreePool(int n, int slots, int places) {
        this.nodes = isWithin(n, 1, 5) ? n : 3;
        this.slots = isWithin(slots, 1, 4) ? slots : 2;
        this.pool = new Pool(isWithin(places, 5, 64) ? places : 32);
        this.proposers = new Proposers(this.nodes, this.slots);
        this.acceptors = new Acceptors(this.nodes, this.slots);
        this.learners = new Learners(this.nodes, this.slots);
        this.upBits = (1 << this.nodes) - 1;
        this.deliveries = 0;
        this.lost = 0;
    }

    public int prepare(int node, int slot, int round, int value) {
        if (!hasSeat(node, slot) || !isWithin(round, 0, GREATEST_ROUND) || value < 1) {
            return NONE;
        }
        if (!isUp(node)) {
            return DOWN;
        }
        int seat = seatOf(node, slot);
        int ballot = round * nodes + node;
        if (ballot <= proposers.lastBallot(seat)) {
            return OLD;
        }
        if (pool.emptyPlaces() < nodes) {
            return FULL;
        }
        proposers.begin(seat, ballot, value);
        sendToAll(PREPARE, node, slot, ballot, NO_VALUE);
        return ballot;
    }

    public int deliver(int m) {
        if (!pool.holds(m)) {
            return NONE;
        }
        if (!isDeliverable(m)) {
            return FULL;
        }
        return handOver(m);
    }

    public int sweep(int k) {
        if (!isWithin(k, 0, LONGEST_SWEEP)) {
            return NONE;
        }
        int made = 0;
        while (made < k) {
            int m = leastDeliverable();
            if (m == NONE) {
                break;
            }
            handOver(m);
            made++;
        }
        return made;
    }

    public int drop(int m) {
        if (!pool.holds(m)) {
            return NONE;
        }
        int kind = pool.field(m, KIND);
        pool.takeOut(m);
        lost++;
        return kind;
    }

    public int duplicate(int m) {
        if (!pool.holds(m)) {
            return NONE;
        }
        int place = pool.sendCopy(m);
        return place == NONE ? FULL : place;
    }

    public int crash(int node) {
        if (!hasNode(node) || !isUp(node)) {
            return NONE;
        }
        upBits &= ~(1 << node);
        return Integer.bitCount(upBits);
    }

    public int restart(int node) {
        if (!hasNode(node) || isUp(node)) {
            return NONE;
        }
        upBits |= 1 << node;
        for (int slot = 0; slot < slots; slot++) {
            int seat = seatOf(node, slot);
            proposers.comeBack(seat);
            learners.comeBack(seat);
        }
        return Integer.bitCount(upBits);
    }

    public int tell(int node, int slot) {
        if (!hasSeat(node, slot)) {
            return NONE;
        }
        int value = learners.decree(seatOf(node, slot));
        if (value == NO_VALUE) {
            return NONE;
        }
        if (!isUp(node)) {
            return DOWN;
        }
        if (pool.emptyPlaces() < nodes) {
            return FULL;
        }
        sendToAll(TOLD, node, slot, NO_BALLOT, value);
        return value;
    }

    public int learned(int node, int slot) {
        return hasSeat(node, slot) ? learners.decree(seatOf(node, slot)) : NONE;
    }

    public int acceptor(int node, int slot, int what) {
        if (!hasSeat(node, slot)) {
            return NONE;
        }
        int seat = seatOf(node, slot);
        switch (what) {
            case 0:
                return acceptors.promisedBallot(seat);
            case 1:
                return acceptors.acceptedBallot(seat);
            case 2:
                return acceptors.acceptedValue(seat);
            default:
                return NONE;
        }
    }

    public int proposer(int node, int slot, int what) {
        if (!hasSeat(node, slot)) {
            return NONE;
        }
        int seat = seatOf(node, slot);
        switch (what) {
            case 0:
                return proposers.phase(seat);
            case 1:
                return proposers.lastBallot(seat);
            case 2:
                return proposers.promises(seat);
            case 3:
                return proposers.bestBallot(seat);
            case 4:
                return proposers.phase(seat) == ACCEPTING ? proposers.value(seat) : NO_VALUE;
            default:
                return NONE;
        }
    }

    public int heard(int node, int slot, int of) {
        if (!hasSeat(node, slot) || !hasNode(of)) {
            return NONE;
        }
        return learners.ballotOf(seatOf(node, slot), of);
    }

    public int message(int m, int what) {
        return pool.holds(m) && isWithin(what, 0, FIELDS - 1) ? pool.field(m, what) : NONE;
    }

    public int chosen(int slot) {
        return hasSlot(slot) ? acceptors.majorityValue(slot) : NONE;
    }

    public int prefix(int node) {
        return hasNode(node) ? prefixLength(node) : NONE;
    }

    public long applied(int node) {
        if (!hasNode(node)) {
            return 0L;
        }
        long register = 0L;
        int length = prefixLength(node);
        for (int slot = 0; slot < length; slot++) {
            int value = learners.decree(seatOf(node, slot));
            register = value % 2 == 0 ? register + value : register * value + 1L;
        }
        return register;
    }

    public int count(int what) {
        switch (what) {
            case 0:
                return pool.messages();
            case 1:
                return nodes;
            case 2:
                return slots;
            case 3:
                return pool.places();
            case 4:
                return deliveries;
            case 5:
                return lost;
            case 6:
                return upBits;
            default:
                return NONE;
        }
    }

    private static boolean isWithin(int x, int least, int greatest) {
        return x >= least && x <= greatest;
    }

    private static boolean isMajority(int some, int all) {
        return 2 * some > all;
    }

    private boolean hasNode(int node) {
        return isWithin(node, 0, nodes - 1);
    }

    private boolean hasSlot(int slot) {
        return isWithin(slot, 0, slots - 1);
    }

    private boolean hasSeat(int node, int slot) {
        return hasNode(node) && hasSlot(slot);
    }

    private int seatOf(int node, int slot) {
        return node * slots + slot;
    }

    private boolean isUp(int node) {
        return (upBits >> node & 1) == 1;
    }

    private int prefixLength(int node) {
        int length = 0;
        while (length < slots && learners.decree(seatOf(node, length)) != NO_VALUE) {
            length++;
        }
        return length;
    }

    private void sendToAll(int kind, int sender, int slot, int ballot, int value) {
        for (int receiver = 0; receiver < nodes; receiver++) {
            pool.send(kind, sender, receiver, slot, ballot, value, NO_BALLOT);
        }
    }

    private int leastDeliverable() {
        for (int m = 0; m < pool.places(); m++) {
            if (pool.holds(m) && isDeliverable(m)) {
                return m;
            }
        }
        return NONE;
    }

    // A single answer always fits, since the delivered message leaves its own place to it.
    private boolean isDeliverable(int m) {
        return pool.emptyPlaces() + 1 >= nodes || !isAnsweredToAll(m);
    }

    private boolean isAnsweredToAll(int m) {
        int receiver = pool.field(m, RECEIVER);
        if (!isUp(receiver)) {
            return false;
        }
        int seat = seatOf(receiver, pool.field(m, SLOT));
        int ballot = pool.field(m, BALLOT);
        switch (pool.field(m, KIND)) {
            case PROMISE:
                return proposers.wouldWin(seat, pool.field(m, SENDER), ballot);
            case ACCEPT:
                return acceptors.wouldAccept(seat, ballot);
            default:
                return false;
        }
    }

    // The fields are read first: what is sent may go to the place that the message leaves.
    private int handOver(int m) {
        int kind = pool.field(m, KIND);
        int sender = pool.field(m, SENDER);
        int receiver = pool.field(m, RECEIVER);
        int slot = pool.field(m, SLOT);
        int ballot = pool.field(m, BALLOT);
        int value = pool.field(m, VALUE);
        int acceptedBallot = pool.field(m, ACCEPTED_BALLOT);
        pool.takeOut(m);
        deliveries++;
        if (!isUp(receiver)) {
            lost++;
            return NO_MESSAGE;
        }
        int seat = seatOf(receiver, slot);
        switch (kind) {
            case PREPARE:
                if (acceptors.promise(seat, ballot)) {
                    pool.send(PROMISE, receiver, sender, slot, ballot,
                            acceptors.acceptedValue(seat), acceptors.acceptedBallot(seat));
                }
                break;
            case PROMISE:
                if (proposers.takePromise(seat, sender, ballot, acceptedBallot, value)) {
                    sendToAll(ACCEPT, receiver, slot, ballot, proposers.value(seat));
                }
                break;
            case ACCEPT:
                if (acceptors.accept(seat, ballot, value)) {
                    sendToAll(ACCEPTED, receiver, slot, ballot, value);
                }
                break;
            case ACCEPTED:
                learners.hear(seat, sender, ballot, value);
                break;
            default:
                learners.learn(seat, value);
                break;
        }
        return kind;
    }

    /** The places, each a row of the fields of its message; an empty one has no kind. */
    private static final class Pool {
        private final int places;
        private final int[] rows;
        private int messages;

        Pool(int places) {
            this.places = places;
            this.rows = new int[places * FIELDS];
            this.messages = 0;
        }

        int places() {
            return places;
        }

        int messages() {
            return messages;
        }

        int emptyPlaces() {
            return places - messages;
        }

        boolean holds(int m) {
            return isWithin(m, 0, places - 1) && field(m, KIND) != NO_MESSAGE;
        }

        int field(int m, int what) {
            return rows[m * FIELDS + what];
        }

        void takeOut(int m) {
            rows[m * FIELDS + KIND] = NO_MESSAGE;
            messages--;
        }

        int send(int kind, int sender, int receiver, int slot, int ballot, int value,
                int acceptedBallot) {
            int place = leastEmpty();
            if (place == NONE) {
                return NONE;
            }
            int row = place * FIELDS;
            rows[row + KIND] = kind;
            rows[row + SENDER] = sender;
            rows[row + RECEIVER] = receiver;
            rows[row + SLOT] = slot;
            rows[row + BALLOT] = ballot;
            rows[row + VALUE] = value;
            rows[row + ACCEPTED_BALLOT] = acceptedBallot;
            messages++;
            return place;
        }

        int sendCopy(int m) {
            return send(field(m, KIND), field(m, SENDER), field(m, RECEIVER), field(m, SLOT),
                    field(m, BALLOT), field(m, VALUE), field(m, ACCEPTED_BALLOT));
        }

        private int leastEmpty() {
            for (int m = 0; m < places; m++) {
                if (field(m, KIND) == NO_MESSAGE) {
                    return m;
                }
            }
            return NONE;
        }
    }

    /** The proposers of all seats. */
    private static final class Proposers {
        private final int nodes;
        private final int[] phase;
        private final int[] lastBallot;
        private final int[] promisedBits;
        private final int[] bestBallot;
        // The wish, until a best one is told: then that one's value.
        private final int[] value;

        Proposers(int nodes, int slots) {
            int seats = nodes * slots;
            this.nodes = nodes;
            this.phase = new int[seats];
            this.lastBallot = new int[seats];
            this.promisedBits = new int[seats];
            this.bestBallot = new int[seats];
            this.value = new int[seats];
            Arrays.fill(this.lastBallot, NO_BALLOT);
            Arrays.fill(this.bestBallot, NO_BALLOT);
        }

        int phase(int seat) {
            return phase[seat];
        }

        int lastBallot(int seat) {
            return lastBallot[seat];
        }

        int promises(int seat) {
            return Integer.bitCount(promisedBits[seat]);
        }

        int bestBallot(int seat) {
            return bestBallot[seat];
        }

        int value(int seat) {
            return value[seat];
        }

        void begin(int seat, int ballot, int wish) {
            phase[seat] = PREPARING;
            lastBallot[seat] = ballot;
            promisedBits[seat] = 0;
            bestBallot[seat] = NO_BALLOT;
            value[seat] = wish;
        }

        void comeBack(int seat) {
            phase[seat] = IDLE;
            promisedBits[seat] = 0;
            bestBallot[seat] = NO_BALLOT;
        }

        boolean wouldWin(int seat, int sender, int ballot) {
            return awaits(seat, ballot)
                    && isMajority(Integer.bitCount(promisedBits[seat] | 1 << sender), nodes);
        }

        /** Whether the promise makes the majority. */
        boolean takePromise(int seat, int sender, int ballot, int toldBallot, int toldValue) {
            if (!awaits(seat, ballot)) {
                return false;
            }
            promisedBits[seat] |= 1 << sender;
            if (toldBallot > bestBallot[seat]) {
                bestBallot[seat] = toldBallot;
                value[seat] = toldValue;
            }
            if (!isMajority(promises(seat), nodes)) {
                return false;
            }
            phase[seat] = ACCEPTING;
            return true;
        }

        private boolean awaits(int seat, int ballot) {
            return phase[seat] == PREPARING && lastBallot[seat] == ballot;
        }
    }

    /** The acceptors of all seats; they outlast a crash. */
    private static final class Acceptors {
        private final int nodes;
        private final int slots;
        private final int[] promisedBallot;
        private final int[] acceptedBallot;
        private final int[] acceptedValue;

        Acceptors(int nodes, int slots) {
            int seats = nodes * slots;
            this.nodes = nodes;
            this.slots = slots;
            this.promisedBallot = new int[seats];
            this.acceptedBallot = new int[seats];
            this.acceptedValue = new int[seats];
            Arrays.fill(this.promisedBallot, NO_BALLOT);
            Arrays.fill(this.acceptedBallot, NO_BALLOT);
        }

        int promisedBallot(int seat) {
            return promisedBallot[seat];
        }

        int acceptedBallot(int seat) {
            return acceptedBallot[seat];
        }

        int acceptedValue(int seat) {
            return acceptedValue[seat];
        }

        /** Whether the ballot is promised. */
        boolean promise(int seat, int ballot) {
            if (ballot <= promisedBallot[seat]) {
                return false;
            }
            promisedBallot[seat] = ballot;
            return true;
        }

        boolean wouldAccept(int seat, int ballot) {
            return ballot >= promisedBallot[seat];
        }

        /** Whether the ballot is accepted. */
        boolean accept(int seat, int ballot, int value) {
            if (!wouldAccept(seat, ballot)) {
                return false;
            }
            promisedBallot[seat] = ballot;
            acceptedBallot[seat] = ballot;
            acceptedValue[seat] = value;
            return true;
        }

        // Where a majority has accepted nothing, its value is the one that stands for none.
        int majorityValue(int slot) {
            for (int node = 0; node < nodes; node++) {
                int seat = node * slots + slot;
                if (isMajority(acceptorsOf(slot, acceptedBallot[seat]), nodes)) {
                    return acceptedValue[seat];
                }
            }
            return NO_VALUE;
        }

        private int acceptorsOf(int slot, int ballot) {
            int same = 0;
            for (int node = 0; node < nodes; node++) {
                if (acceptedBallot[node * slots + slot] == ballot) {
                    same++;
                }
            }
            return same;
        }
    }

    /** The learners of all seats. */
    private static final class Learners {
        private final int nodes;
        // A row of one ballot a node for each seat. The values need not be kept: all that is
        // accepted with one ballot has one value, and the message that makes the majority tells it.
        private final int[] heardBallot;
        private final int[] decree;

        Learners(int nodes, int slots) {
            int seats = nodes * slots;
            this.nodes = nodes;
            this.heardBallot = new int[seats * nodes];
            this.decree = new int[seats];
            Arrays.fill(this.heardBallot, NO_BALLOT);
        }

        int ballotOf(int seat, int node) {
            return heardBallot[seat * nodes + node];
        }

        int decree(int seat) {
            return decree[seat];
        }

        void comeBack(int seat) {
            for (int node = 0; node < nodes; node++) {
                heardBallot[seat * nodes + node] = NO_BALLOT;
            }
            decree[seat] = NO_VALUE;
        }

        void hear(int seat, int sender, int ballot, int value) {
            if (ballot <= ballotOf(seat, sender)) {
                return;
            }
            heardBallot[seat * nodes + sender] = ballot;
            if (isMajority(nodesHeardWith(seat, ballot), nodes)) {
                learn(seat, value);
            }
        }

        void learn(int seat, int value) {
            if (decree[seat] == NO_VALUE) {
                decree[seat] = value;
            }
        }

        private int nodesHeardWith(int seat, int ballot) {
            int same = 0;
            for (int node = 0; node < nodes; node++) {
                if (ballotOf(seat, node) == ballot) {
                    same++;
                }
            }
            return same;
        }
    }
}
