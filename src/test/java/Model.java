import java.util.ArrayList;
import java.util.Arrays;
import java.util.List;

/**
 * The document once more, told in another way: sets and values apart, what is spanned as a table of
 * all sets, copies by cloning everything. Slow, and it throws where the program must not.
 */
final class Model {
    static final int BAD = -1, STATE = -2, NONE = -9;

    record Packet(int set, int value) {
        Packet with(Packet other) {
            return new Packet(set ^ other.set, value ^ other.value);
        }

        int degree() {
            return Integer.bitCount(set);
        }

        int number(int what) {
            return what == 0 ? set : what == 1 ? value : degree();
        }
    }

    static final class Situation implements Cloneable {
        int k = 4, r = 1, time, room = 2, policy, style, made, lost, arrived, stale, most;
        long seed = 1;
        int[] values = firstValues(), losses = new int[4], weights = {0, 1, 5, 2, 1, 0, 0};
        List<List<Packet>> stores = emptyStores();
        List<Packet> kept = new ArrayList<>(), waiting = new ArrayList<>();
        int[] peeledValue = none(), peeledTime = none(), solvedValue = none(), solvedTime = none();

        static int[] firstValues() {
            int[] values = new int[12];
            for (int b = 0; b < 12; b++) {
                values[b] = 10 * b + 7;
            }
            return values;
        }

        static int[] none() {
            int[] row = new int[12];
            Arrays.fill(row, NONE);
            return row;
        }

        static List<List<Packet>> emptyStores() {
            List<List<Packet>> stores = new ArrayList<>();
            for (int i = 0; i < 3; i++) {
                stores.add(new ArrayList<>());
            }
            return stores;
        }

        Situation copy() {
            Situation c;
            try {
                c = (Situation) super.clone();
            } catch (CloneNotSupportedException e) {
                throw new AssertionError(e);
            }
            c.values = values.clone();
            c.losses = losses.clone();
            c.weights = weights.clone();
            c.peeledValue = peeledValue.clone();
            c.peeledTime = peeledTime.clone();
            c.solvedValue = solvedValue.clone();
            c.solvedTime = solvedTime.clone();
            c.kept = new ArrayList<>(kept);
            c.waiting = new ArrayList<>(waiting);
            c.stores = new ArrayList<>();
            for (List<Packet> store : stores) {
                c.stores.add(new ArrayList<>(store));
            }
            return c;
        }

        int draw(int n) {
            seed = (1103515245L * seed + 12345L) % 2147483648L;
            return (int) ((seed / 65536) % n);
        }

        /** For each set its value if the packets span it, otherwise -1. */
        int[] table(List<Packet> packets) {
            int[] table = new int[1 << k];
            Arrays.fill(table, -1);
            table[0] = 0;
            for (Packet p : packets) {
                int[] old = table.clone();
                for (int s = 0; s < old.length; s++) {
                    if (old[s] >= 0 && table[s ^ p.set] < 0) {
                        table[s ^ p.set] = old[s] ^ p.value;
                    }
                }
            }
            return table;
        }

        boolean novel(List<Packet> packets, int set) {
            return table(packets)[set] < 0;
        }

        int rank(List<Packet> packets) {
            List<Packet> left = new ArrayList<>();
            for (Packet p : packets) {
                if (novel(left, p.set)) {
                    left.add(p);
                }
            }
            return left.size();
        }

        int known(int[] times) {
            int n = 0;
            for (int t : times) {
                n += t == NONE ? 0 : 1;
            }
            return n;
        }

        boolean all(int how) {
            return known(how == 0 ? peeledTime : solvedTime) == k;
        }

        Packet ofSource(int set) {
            int value = 0;
            for (int b = 0; b < k; b++) {
                value ^= (set >> b) % 2 == 1 ? values[b] : 0;
            }
            return new Packet(set, value);
        }

        Packet makeAtSource() {
            int sum = 0;
            for (int d = 1; d <= 6; d++) {
                sum += weights[d];
            }
            int number = draw(sum), degree = 0, reached = 0;
            do {
                degree++;
                reached += weights[degree];
            } while (reached <= number);
            if (degree > k) {
                degree = k;
            }
            int set = 0;
            for (int b = 0; b < k; b++) {
                if (draw(k - b) < degree - Integer.bitCount(set)) {
                    set += 1 << b;
                }
            }
            made++;
            return ofSource(set);
        }

        Packet makeAtRelay(List<Packet> store) {
            if (store.isEmpty()) {
                return null;
            }
            if (style == 0) {
                Packet front = store.remove(0);
                store.add(front);
                return front;
            }
            Packet sum = null;
            for (Packet p : store) {
                if (draw(2) == 1) {
                    sum = sum == null ? p : sum.with(p);
                }
            }
            if (sum == null) {
                return store.get(0);
            }
            return sum.set == 0 ? null : sum;
        }

        void tick() {
            time++;
            Packet[] moving = new Packet[r + 1];
            for (int node = 0; node <= r; node++) {
                moving[node] = node == 0 ? makeAtSource() : makeAtRelay(stores.get(node - 1));
                if (moving[node] != null && draw(100) < losses[node]) {
                    moving[node] = null;
                    lost++;
                }
            }
            for (int node = 0; node <= r; node++) {
                if (moving[node] != null && node == r) {
                    receive(moving[node]);
                } else if (moving[node] != null) {
                    store(stores.get(node), moving[node]);
                }
            }
            most = Math.max(most, waiting.size());
        }

        void store(List<Packet> store, Packet p) {
            if (store.size() < room) {
                if (policy != 2 || novel(store, p.set)) {
                    store.add(p);
                }
            } else if (policy == 0) {
                store.remove(0);
                store.add(p);
            } else if (policy == 2 && novel(store, p.set)) {
                int at = 0;
                for (int i = 1; i < store.size(); i++) {
                    if (common(store.get(i), p) > common(store.get(at), p)) {
                        at = i;
                    }
                }
                store.remove(at);
                store.add(p);
            } else if (policy == 3) {
                Packet sum = store.remove(0).with(p);
                if (sum.set != 0) {
                    store.add(sum);
                }
            }
        }

        static int common(Packet a, Packet b) {
            return Integer.bitCount(a.set & b.set);
        }

        boolean receive(Packet p) {
            arrived++;
            peel(p);
            if (!novel(kept, p.set)) {
                stale++;
                return false;
            }
            kept.add(p);
            int[] table = table(kept);
            for (int b = 0; b < k; b++) {
                if (solvedTime[b] == NONE && table[1 << b] >= 0) {
                    solvedTime[b] = time;
                    solvedValue[b] = table[1 << b];
                }
            }
            return true;
        }

        void peel(Packet p) {
            for (int b = 0; b < k; b++) {
                if (peeledTime[b] != NONE && (p.set & 1 << b) != 0) {
                    p = p.with(new Packet(1 << b, peeledValue[b]));
                }
            }
            if (p.degree() >= 2) {
                waiting.add(p);
                if (waiting.size() > 20) {
                    waiting.remove(0);
                }
            } else if (p.degree() == 1) {
                learn(p);
            }
        }

        void learn(Packet single) {
            int b = Integer.numberOfTrailingZeros(single.set);
            if (peeledTime[b] == NONE) {
                peeledTime[b] = time;
                peeledValue[b] = single.value;
            }
            waiting.replaceAll(w -> (w.set & single.set) != 0 ? w.with(single) : w);
            waiting.removeIf(w -> w.set == 0);
            for (int i = 0; i < waiting.size(); i++) {
                if (waiting.get(i).degree() == 1) {
                    learn(waiting.remove(i));
                    return;
                }
            }
        }

        int ticks(int how, int limit) {
            for (int t = 0; t <= limit; t++) {
                if (all(how)) {
                    return t;
                }
                tick();
            }
            return NONE;
        }
    }

    private Situation s = new Situation();
    private final List<Situation> history = new ArrayList<>();
    private final Situation[] images = new Situation[2];

    private void change() {
        history.add(s.copy());
        if (history.size() > 8) {
            history.remove(0);
        }
    }

    private static boolean out(int v, int low, int high) {
        return v < low || v > high;
    }

    private boolean noSet(int set) {
        return out(set, 1, (1 << s.k) - 1);
    }

    private List<Packet> list(int node) {
        return node == s.r + 1 ? s.kept : s.stores.get(node - 1);
    }

    int begin(int blocks, int relays) {
        if (out(blocks, 2, 12) || out(relays, 0, 3)) {
            return BAD;
        }
        change();
        Situation fresh = new Situation();
        fresh.k = blocks;
        for (int link = 0; link <= Math.min(s.r, relays); link++) {
            fresh.losses[link] = s.losses[link];
        }
        fresh.r = relays;
        fresh.weights = s.weights;
        fresh.room = s.room;
        fresh.policy = s.policy;
        fresh.style = s.style;
        fresh.seed = s.seed;
        int before = s.time;
        s = fresh.copy();
        return before;
    }

    int setBlock(int block, int value) {
        if (out(block, 0, s.k - 1) || out(value, 0, 255)) {
            return BAD;
        }
        if (s.time != 0 || s.arrived != 0) {
            return STATE;
        }
        change();
        int before = s.values[block];
        s.values[block] = value;
        return before;
    }

    int setLoss(int link, int loss) {
        if (out(link, 0, s.r) || out(loss, 0, 99)) {
            return BAD;
        }
        change();
        int before = s.losses[link];
        s.losses[link] = loss;
        return before;
    }

    int setWeight(int degree, int weight) {
        if (out(degree, 1, 6) || out(weight, 0, 9)) {
            return BAD;
        }
        int[] next = s.weights.clone();
        next[degree] = weight;
        if (Arrays.stream(next).sum() == 0) {
            return STATE;
        }
        change();
        int before = s.weights[degree];
        s.weights = next;
        return before;
    }

    int set(int what, int v) {
        if (out(what, 0, 3) || v < 0 || what == 0 && out(v, 1, 4) || what == 1 && v > 3 || what == 2 && v > 1) {
            return BAD;
        }
        change();
        int before;
        if (what == 0) {
            before = s.room;
            s.room = v;
            for (List<Packet> store : s.stores) {
                while (store.size() > v) {
                    store.remove(0);
                }
            }
        } else if (what == 1) {
            before = s.policy;
            s.policy = v;
        } else if (what == 2) {
            before = s.style;
            s.style = v;
        } else {
            before = (int) s.seed;
            s.seed = v;
        }
        return before;
    }

    int run(int n) {
        if (out(n, 1, 100)) {
            return BAD;
        }
        change();
        for (int i = 0; i < n; i++) {
            s.tick();
        }
        return s.rank(s.kept);
    }

    int inject(int set) {
        if (noSet(set)) {
            return BAD;
        }
        change();
        boolean novel = s.receive(s.ofSource(set));
        s.most = Math.max(s.most, s.waiting.size());
        return novel ? 1 : 0;
    }

    int undo() {
        if (history.isEmpty()) {
            return STATE;
        }
        s = history.remove(history.size() - 1);
        return history.size();
    }

    int told(int what) {
        if (out(what, 0, 16)) {
            return BAD;
        }
        int[] all = {s.k, s.r, s.time, s.room, s.policy, s.style, (int) s.seed, s.made, s.lost, s.arrived,
            s.stale, s.rank(s.kept), s.known(s.peeledTime), s.waiting.size(), s.known(s.solvedTime), s.most,
            history.size()};
        return all[what];
    }

    int block(int block, int what) {
        if (out(block, 0, s.k - 1) || out(what, 0, 4)) {
            return BAD;
        }
        int[][] rows = {s.values, s.peeledValue, s.solvedValue, s.peeledTime, s.solvedTime};
        return rows[what][block];
    }

    int packet(int node, int k, int what) {
        if (out(node, 1, s.r + 1) || k < 0 || out(what, 0, 2)) {
            return BAD;
        }
        return k < list(node).size() ? list(node).get(k).number(what) : NONE;
    }

    int waiting(int k, int what) {
        if (k < 0 || out(what, 0, 2)) {
            return BAD;
        }
        return k < s.waiting.size() ? s.waiting.get(k).number(what) : NONE;
    }

    int node(int node, int what) {
        if (out(node, 0, s.r + 1) || out(what, 0, 2)) {
            return BAD;
        }
        if (what == 2) {
            return node > s.r ? NONE : s.losses[node];
        }
        if (node == 0) {
            return s.k;
        }
        return what == 0 ? list(node).size() : s.rank(list(node));
    }

    int novel(int node, int set) {
        if (out(node, 1, s.r + 1) || noSet(set)) {
            return BAD;
        }
        return s.novel(list(node), set) ? 1 : 0;
    }

    float overhead() {
        return s.kept.isEmpty() ? 0.0f : (float) s.arrived / (float) s.rank(s.kept);
    }

    int forecast(int how) {
        return out(how, 0, 1) ? BAD : s.copy().ticks(how, 300);
    }

    int bestPolicy() {
        int best = NONE, fewest = 301;
        for (int policy = 3; policy >= 0; policy--) {
            Situation copy = s.copy();
            copy.policy = policy;
            int ticks = copy.ticks(1, 300);
            if (ticks != NONE && ticks <= fewest) {
                best = policy;
                fewest = ticks;
            }
        }
        return best;
    }

    int bearable(int link, int ticks) {
        if (out(link, 0, s.r) || out(ticks, 0, 100)) {
            return BAD;
        }
        int greatest = NONE;
        for (int loss = 0; loss <= 99; loss++) {
            Situation copy = s.copy();
            copy.losses[link] = loss;
            if (copy.ticks(1, ticks) != NONE) {
                greatest = loss;
            }
        }
        return greatest;
    }

    int keep(int i) {
        if (out(i, 0, 1)) {
            return BAD;
        }
        images[i] = s.copy();
        return s.time;
    }

    int back(int i) {
        if (out(i, 0, 1)) {
            return BAD;
        }
        if (images[i] == null) {
            return STATE;
        }
        change();
        s = images[i].copy();
        return s.time;
    }
}
