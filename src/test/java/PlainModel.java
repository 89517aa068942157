import java.util.ArrayList;
import java.util.HashMap;
import java.util.HashSet;
import java.util.List;
import java.util.Map;
import java.util.Set;
import java.util.TreeMap;

/**
 * The document once more, written another way and as near to its words as can be, for comparison:
 * a delivery is tried on the sheet first, and made only if what it sends has room.
 */
final class PlainModel {
    static final class Message {
        int kind;
        int sender;
        int receiver;
        int slot;
        int ballot;
        int value;
        int accepted = -1;

        Message(int kind, int sender, int receiver, int slot, int ballot, int value) {
            this.kind = kind;
            this.sender = sender;
            this.receiver = receiver;
            this.slot = slot;
            this.ballot = ballot;
            this.value = value;
        }
    }

    static final class Part {
        int last = -1;
        int phase = 0;
        int wish = 0;
        Map<Integer, Message> promises = new HashMap<>();
        int proposed = 0;
        int promised = -1;
        int acceptedBallot = -1;
        int acceptedValue = 0;
        Map<Integer, int[]> heard = new HashMap<>();
        int learned = 0;
    }

    private final int n;
    private final int s;
    private final int c;
    private final TreeMap<Integer, Message> pool = new TreeMap<>();
    private final Part[][] parts;
    private final Set<Integer> down = new HashSet<>();
    private int made = 0;
    private int lost = 0;

    PlainModel(int n, int slots, int places) {
        this.n = n < 1 || n > 5 ? 3 : n;
        this.s = slots < 1 || slots > 4 ? 2 : slots;
        this.c = places < 5 || places > 64 ? 32 : places;
        this.parts = new Part[this.n][this.s];
        for (Part[] row : parts) {
            for (int i = 0; i < row.length; i++) {
                row[i] = new Part();
            }
        }
    }

    private boolean node(int node) {
        return 0 <= node && node < n;
    }

    private boolean slot(int slot) {
        return 0 <= slot && slot < s;
    }

    private int free() {
        return c - pool.size();
    }

    private int send(Message message) {
        int place = 0;
        while (pool.containsKey(place)) {
            place++;
        }
        pool.put(place, message);
        return place;
    }

    private List<Message> toAll(int kind, int sender, int slot, int ballot, int value) {
        List<Message> all = new ArrayList<>();
        for (int i = 0; i < n; i++) {
            all.add(new Message(kind, sender, i, slot, ballot, value));
        }
        return all;
    }

    int prepare(int node, int slot, int round, int value) {
        if (!node(node) || !slot(slot) || round < 0 || round > 1000 || value < 1) {
            return -1;
        }
        if (down.contains(node)) {
            return -2;
        }
        Part p = parts[node][slot];
        int ballot = round * n + node;
        if (!(ballot > p.last)) {
            return -3;
        }
        if (free() < n) {
            return -4;
        }
        p.last = ballot;
        p.phase = 1;
        p.wish = value;
        p.promises = new HashMap<>();
        toAll(1, node, slot, ballot, 0).forEach(this::send);
        return ballot;
    }

    private static Message best(Map<Integer, Message> promises) {
        Message best = null;
        for (Message one : promises.values()) {
            if (one.accepted != -1 && (best == null || one.accepted > best.accepted)) {
                best = one;
            }
        }
        return best;
    }

    /** What the delivery of a message sends; made for real only when change is so. */
    private List<Message> effect(Message x, boolean change) {
        List<Message> sent = new ArrayList<>();
        if (down.contains(x.receiver)) {
            return sent;
        }
        Part p = parts[x.receiver][x.slot];
        if (x.kind == 1 && x.ballot > p.promised) {
            Message promise = new Message(2, x.receiver, x.sender, x.slot, x.ballot,
                    p.acceptedValue);
            promise.accepted = p.acceptedBallot;
            sent.add(promise);
            if (change) {
                p.promised = x.ballot;
            }
        } else if (x.kind == 2 && p.phase == 1 && x.ballot == p.last) {
            Map<Integer, Message> promises = new HashMap<>(p.promises);
            promises.put(x.sender, x);
            boolean enough = promises.size() > n / 2;
            Message best = best(promises);
            int value = best == null ? p.wish : best.value;
            if (enough) {
                sent.addAll(toAll(3, x.receiver, x.slot, x.ballot, value));
            }
            if (change) {
                p.promises = promises;
                p.phase = enough ? 2 : 1;
                p.proposed = value;
            }
        } else if (x.kind == 3 && !(x.ballot < p.promised)) {
            sent.addAll(toAll(4, x.receiver, x.slot, x.ballot, x.value));
            if (change) {
                p.promised = x.ballot;
                p.acceptedBallot = x.ballot;
                p.acceptedValue = x.value;
            }
        } else if (x.kind == 4 && change) {
            int[] old = p.heard.get(x.sender);
            if (old == null || x.ballot > old[0]) {
                p.heard.put(x.sender, new int[] {x.ballot, x.value});
            }
            learnFromHeard(p);
        } else if (x.kind == 5 && change && p.learned == 0) {
            p.learned = x.value;
        }
        return sent;
    }

    private void learnFromHeard(Part p) {
        for (int[] one : p.heard.values()) {
            long same = p.heard.values().stream().filter(h -> h[0] == one[0]).count();
            if (same > n / 2 && p.learned == 0) {
                p.learned = one[1];
            }
        }
    }

    int deliver(int m) {
        Message x = pool.get(m);
        if (x == null) {
            return -1;
        }
        if (effect(x, false).size() > free() + 1) {
            return -4;
        }
        pool.remove(m);
        made++;
        if (down.contains(x.receiver)) {
            lost++;
            return 0;
        }
        effect(x, true).forEach(this::send);
        return x.kind;
    }

    int sweep(int k) {
        if (k < 0 || k > 100) {
            return -1;
        }
        int done = 0;
        for (int i = 0; i < k; i++) {
            boolean any = false;
            for (int m = 0; m < c && !any; m++) {
                any = deliver(m) >= 0;
            }
            done += any ? 1 : 0;
        }
        return done;
    }

    int drop(int m) {
        Message x = pool.remove(m);
        if (x == null) {
            return -1;
        }
        lost++;
        return x.kind;
    }

    int duplicate(int m) {
        Message x = pool.get(m);
        if (x == null) {
            return -1;
        }
        return free() == 0 ? -4 : send(x);
    }

    int crash(int node) {
        return node(node) && down.add(node) ? n - down.size() : -1;
    }

    int restart(int node) {
        if (!down.remove(node)) {
            return -1;
        }
        for (Part p : parts[node]) {
            p.phase = 0;
            p.heard.clear();
            p.learned = 0;
        }
        return n - down.size();
    }

    int tell(int node, int slot) {
        if (!node(node) || !slot(slot) || parts[node][slot].learned == 0) {
            return -1;
        }
        if (down.contains(node)) {
            return -2;
        }
        if (free() < n) {
            return -4;
        }
        int value = parts[node][slot].learned;
        toAll(5, node, slot, -1, value).forEach(this::send);
        return value;
    }

    int learned(int node, int slot) {
        return node(node) && slot(slot) ? parts[node][slot].learned : -1;
    }

    int acceptor(int node, int slot, int what) {
        if (!node(node) || !slot(slot) || what < 0 || what > 2) {
            return -1;
        }
        Part p = parts[node][slot];
        return new int[] {p.promised, p.acceptedBallot, p.acceptedValue}[what];
    }

    int proposer(int node, int slot, int what) {
        if (!node(node) || !slot(slot) || what < 0 || what > 4) {
            return -1;
        }
        Part p = parts[node][slot];
        Message best = best(p.promises);
        int promises = p.phase == 0 ? 0 : p.promises.size();
        int bestBallot = p.phase == 0 || best == null ? -1 : best.accepted;
        int proposed = p.phase == 2 ? p.proposed : 0;
        return new int[] {p.phase, p.last, promises, bestBallot, proposed}[what];
    }

    int heard(int node, int slot, int of) {
        if (!node(node) || !slot(slot) || !parts[node][slot].heard.containsKey(of)) {
            return -1;
        }
        return parts[node][slot].heard.get(of)[0];
    }

    int message(int m, int what) {
        Message x = pool.get(m);
        if (x == null || what < 0 || what > 6) {
            return -1;
        }
        return new int[] {x.kind, x.sender, x.receiver, x.slot, x.ballot, x.value,
            x.accepted}[what];
    }

    int chosen(int slot) {
        if (!slot(slot)) {
            return -1;
        }
        Map<Integer, Integer> times = new HashMap<>();
        for (int i = 0; i < n; i++) {
            Part p = parts[i][slot];
            if (p.acceptedBallot != -1 && times.merge(p.acceptedBallot, 1, Integer::sum) > n / 2) {
                return p.acceptedValue;
            }
        }
        return 0;
    }

    int prefix(int node) {
        if (!node(node)) {
            return -1;
        }
        for (int i = 0; i < s; i++) {
            if (parts[node][i].learned == 0) {
                return i;
            }
        }
        return s;
    }

    long applied(int node) {
        long register = 0;
        for (int i = 0; i < prefix(node); i++) {
            int value = parts[node][i].learned;
            if ((value & 1) == 0) {
                register += value;
            } else {
                register *= value;
                register += 1;
            }
        }
        return register;
    }

    int count(int what) {
        if (what < 0 || what > 6) {
            return -1;
        }
        int up = 0;
        for (int i = 0; i < n; i++) {
            up += down.contains(i) ? 0 : 1 << i;
        }
        return new int[] {pool.size(), n, s, c, made, lost, up}[what];
    }
}
