/**
 * A simulator of rateless transfer through relays with tiny stores.
 *
 * <p>The face guards the arguments and answers; all that a change can touch lies in a Transfer, so
 * that recording, keeping and trying are each one copy of it. Every Transfer is made in the
 * constructor and used again: no call makes an object.
 */
public final class RelayTransfer {
    public static final int BAD = -1, STATE = -2, NONE = -9;

    private static final int LEAST_BLOCKS = 2, MOST_BLOCKS = 12, FIRST_BLOCKS = 4;
    private static final int MOST_RELAYS = 3, FIRST_RELAYS = 1;
    private static final int MOST_ROOM = 4, FIRST_ROOM = 2;
    private static final int MOST_DEGREE = 6, MOST_WEIGHT = 9;
    private static final int MOST_LOSS = 99, LOSS_RANGE = 100;
    private static final int MOST_WAITING = 20;
    private static final int MOST_VALUE = 255, VALUE_BITS = 8;
    private static final int MOST_RUN = 100, MOST_FORECAST = 300;
    private static final int MOST_RECORDED = 8, IMAGES = 2;

    private static final int DROP_OLDEST = 0, DROP_NEW = 1, ONLY_NOVEL = 2, COMBINE = 3;
    private static final int FORWARD = 0, RECODE = 1;
    private static final int BY_PEELING = 0, BY_ELIMINATION = 1;

    /** No packet has an empty set, so this number stands for none. */
    private static final int NO_PACKET = 0;

    private final Transfer now = new Transfer();
    private final Transfer trial = new Transfer();
    private final Transfer[] history = new Transfer[MOST_RECORDED];
    private final Transfer[] images = new Transfer[IMAGES];
    private final boolean[] filled = new boolean[IMAGES];
    private int recorded = 0;

    public RelayTransfer() {
        for (int i = 0; i < history.length; i++) {
            history[i] = new Transfer();
        }
        for (int i = 0; i < images.length; i++) {
            images[i] = new Transfer();
        }
    }

    public int begin(int blocks, int relays) {
        if (!isWithin(blocks, LEAST_BLOCKS, MOST_BLOCKS) || !isWithin(relays, 0, MOST_RELAYS)) {
            return BAD;
        }
        remember();
        int before = now.time;
        now.restart(blocks, relays);
        return before;
    }

    public int setBlock(int block, int value) {
        if (!isBlock(block) || !isWithin(value, 0, MOST_VALUE)) {
            return BAD;
        }
        if (now.time != 0 || now.receiver.arrived != 0) {
            return STATE;
        }
        remember();
        int before = now.setup.values[block];
        now.setup.values[block] = value;
        return before;
    }

    public int setLoss(int link, int loss) {
        if (!isLink(link) || !isWithin(loss, 0, MOST_LOSS)) {
            return BAD;
        }
        remember();
        int before = now.setup.losses[link];
        now.setup.losses[link] = loss;
        return before;
    }

    public int setWeight(int degree, int weight) {
        if (!isWithin(degree, 1, MOST_DEGREE) || !isWithin(weight, 0, MOST_WEIGHT)) {
            return BAD;
        }
        int before = now.setup.weights[degree];
        if (now.setup.weightSum() - before + weight == 0) {
            return STATE;
        }
        remember();
        now.setup.weights[degree] = weight;
        return before;
    }

    public int set(int what, int v) {
        if (!isSetting(what, v)) {
            return BAD;
        }
        remember();
        switch (what) {
            case 0:
                return now.changeRoom(v);
            case 1:
                return now.setup.changePolicy(v);
            case 2:
                return now.setup.changeStyle(v);
            default:
                return now.setup.changeSeed(v);
        }
    }

    public int run(int n) {
        if (!isWithin(n, 1, MOST_RUN)) {
            return BAD;
        }
        remember();
        for (int i = 0; i < n; i++) {
            now.tick();
        }
        return now.receiver.kept.size;
    }

    public int inject(int set) {
        if (!isBlockSet(set)) {
            return BAD;
        }
        remember();
        return now.receiver.accept(now.setup.packetOf(set), now.time) ? 1 : 0;
    }

    public int undo() {
        if (!isWithin(recorded, 1, MOST_RECORDED)) {
            return STATE;
        }
        recorded--;
        now.copyFrom(history[recorded]);
        return recorded;
    }

    public int told(int what) {
        Setup setup = now.setup;
        Receiver receiver = now.receiver;
        switch (what) {
            case 0: return setup.blocks;
            case 1: return setup.relays;
            case 2: return now.time;
            case 3: return setup.room;
            case 4: return setup.policy;
            case 5: return setup.style;
            case 6: return setup.seed;
            case 7: return now.made;
            case 8: return now.lost;
            case 9: return receiver.arrived;
            case 10: return receiver.stale;
            case 11: return receiver.kept.size;
            case 12: return receiver.peeled.count;
            case 13: return receiver.waiting.size;
            case 14: return receiver.solved.count;
            case 15: return receiver.mostWaiting;
            case 16: return recorded;
            default: return BAD;
        }
    }

    public int block(int block, int what) {
        if (!isBlock(block)) {
            return BAD;
        }
        switch (what) {
            case 0: return now.setup.values[block];
            case 1: return now.receiver.peeled.valueAt(block);
            case 2: return now.receiver.solved.valueAt(block);
            case 3: return now.receiver.peeled.times[block];
            case 4: return now.receiver.solved.times[block];
            default: return BAD;
        }
    }

    public int packet(int node, int k, int what) {
        PacketList list = now.listOf(node);
        return list == null ? BAD : numberOfPacket(list, k, what);
    }

    public int waiting(int k, int what) {
        return numberOfPacket(now.receiver.waiting, k, what);
    }

    public int node(int node, int what) {
        if (!isWithin(node, 0, now.setup.relays + 1) || !isWithin(what, 0, 2)) {
            return BAD;
        }
        if (what == 2) {
            return isLink(node) ? now.setup.losses[node] : NONE;
        }
        PacketList list = now.listOf(node);
        if (list == null) {
            return now.setup.blocks;
        }
        return what == 0 ? list.size : now.rankOf(list);
    }

    public int novel(int node, int set) {
        PacketList list = now.listOf(node);
        if (list == null || !isBlockSet(set)) {
            return BAD;
        }
        return now.isNovelFor(list, now.setup.packetOf(set)) ? 1 : 0;
    }

    public float overhead() {
        int rank = now.receiver.kept.size;
        return rank == 0 ? 0.0f : (float) now.receiver.arrived / (float) rank;
    }

    public int forecast(int how) {
        if (!isWithin(how, BY_PEELING, BY_ELIMINATION)) {
            return BAD;
        }
        trial.copyFrom(now);
        return ticksOfTrial(how, MOST_FORECAST);
    }

    public int bestPolicy() {
        int best = NONE;
        int fewest = MOST_FORECAST + 1;
        for (int policy = DROP_OLDEST; policy <= COMBINE; policy++) {
            trial.copyFrom(now);
            trial.setup.policy = policy;
            int ticks = ticksOfTrial(BY_ELIMINATION, MOST_FORECAST);
            if (ticks != NONE && ticks < fewest) {
                best = policy;
                fewest = ticks;
            }
        }
        return best;
    }

    /** A greater loss may by chance be bearable where a smaller one is not: each one is tried. */
    public int bearable(int link, int ticks) {
        if (!isLink(link) || !isWithin(ticks, 0, MOST_RUN)) {
            return BAD;
        }
        for (int loss = MOST_LOSS; loss >= 0; loss--) {
            trial.copyFrom(now);
            trial.setup.losses[link] = loss;
            if (ticksOfTrial(BY_ELIMINATION, ticks) != NONE) {
                return loss;
            }
        }
        return NONE;
    }

    public int keep(int i) {
        if (!isWithin(i, 0, IMAGES - 1)) {
            return BAD;
        }
        images[i].copyFrom(now);
        filled[i] = true;
        return now.time;
    }

    public int back(int i) {
        if (!isWithin(i, 0, IMAGES - 1)) {
            return BAD;
        }
        if (!filled[i]) {
            return STATE;
        }
        remember();
        now.copyFrom(images[i]);
        return now.time;
    }

    private void remember() {
        if (recorded >= MOST_RECORDED) {
            dropOldestRecord();
        }
        history[recorded].copyFrom(now);
        recorded++;
    }

    /** The dropped Transfer goes behind the others, to be written over by the next record. */
    private void dropOldestRecord() {
        Transfer oldest = history[0];
        for (int i = 1; i < history.length; i++) {
            history[i - 1] = history[i];
        }
        history[history.length - 1] = oldest;
        recorded = history.length - 1;
    }

    private int ticksOfTrial(int how, int limit) {
        int ticks = 0;
        while (ticks < limit && !trial.isComplete(how)) {
            trial.tick();
            ticks++;
        }
        return trial.isComplete(how) ? ticks : NONE;
    }

    private boolean isBlock(int block) {
        return isWithin(block, 0, now.setup.blocks - 1);
    }

    private boolean isLink(int link) {
        return isWithin(link, 0, now.setup.relays);
    }

    private boolean isBlockSet(int set) {
        return isWithin(set, 1, (1 << now.setup.blocks) - 1);
    }

    private static boolean isSetting(int what, int v) {
        switch (what) {
            case 0: return isWithin(v, 1, MOST_ROOM);
            case 1: return isWithin(v, DROP_OLDEST, COMBINE);
            case 2: return isWithin(v, FORWARD, RECODE);
            case 3: return v >= 0;
            default: return false;
        }
    }

    private static boolean isWithin(int number, int low, int high) {
        return number >= low && number <= high;
    }

    private static int numberOfPacket(PacketList list, int k, int what) {
        if (k < 0 || !isWithin(what, 0, 2)) {
            return BAD;
        }
        if (k >= list.size) {
            return NONE;
        }
        int packet = list.at(k);
        switch (what) {
            case 0: return setIn(packet);
            case 1: return valueIn(packet);
            default: return degreeOf(packet);
        }
    }

    // A packet is one number, its value in the low bits and its set above them, so that combining
    // two packets is one exclusive or.

    private static int setIn(int packet) {
        return packet >> VALUE_BITS;
    }

    private static int valueIn(int packet) {
        return packet & MOST_VALUE;
    }

    private static int degreeOf(int packet) {
        return Integer.bitCount(packet >> VALUE_BITS);
    }

    private static boolean hasBlock(int packet, int block) {
        return (packet >> (VALUE_BITS + block) & 1) != 0;
    }

    private static int packetWith(int block, int value) {
        return 1 << (VALUE_BITS + block) | value;
    }

    private static void copyRow(int[] from, int[] to) {
        System.arraycopy(from, 0, to, 0, Math.min(from.length, to.length));
    }

    /** Packets in their order, the front first. */
    private static final class PacketList {
        private final int[] packets;
        private int size = 0;

        PacketList(int room) {
            packets = new int[Math.max(room, 0)];
        }

        int at(int k) {
            return k >= 0 && k < size && k < packets.length ? packets[k] : NO_PACKET;
        }

        void append(int packet) {
            if (size >= 0 && size < packets.length) {
                packets[size] = packet;
                size++;
            }
        }

        int removeAt(int k) {
            if (k < 0 || k >= size || k >= packets.length) {
                return NO_PACKET;
            }
            int packet = packets[k];
            for (int i = k + 1; i < size && i < packets.length; i++) {
                packets[i - 1] = packets[i];
            }
            size--;
            return packet;
        }

        /** A loop over what is too much, so that it ends whatever the bound is. */
        void removeFrontsBeyond(int bound) {
            for (int extra = size - bound; extra > 0; extra--) {
                removeAt(0);
            }
        }

        /** Takes a block out of every packet that has it, and drops those of which nothing is left. */
        void takeOut(int single) {
            int left = 0;
            for (int i = 0; i < size && i < packets.length; i++) {
                int packet = packets[i];
                if ((setIn(packet) & setIn(single)) != 0) {
                    packet ^= single;
                }
                if (setIn(packet) != 0) {
                    packets[left] = packet;
                    left++;
                }
            }
            size = left;
        }

        int removeFirstSingle() {
            for (int i = 0; i < size; i++) {
                if (degreeOf(at(i)) == 1) {
                    return removeAt(i);
                }
            }
            return NO_PACKET;
        }

        int placeOfMostCommon(int packet) {
            int place = 0;
            int most = -1;
            for (int i = 0; i < size; i++) {
                int common = Integer.bitCount(setIn(packet) & setIn(at(i)));
                if (common > most) {
                    place = i;
                    most = common;
                }
            }
            return place;
        }

        void clear() {
            size = 0;
        }

        void copyFrom(PacketList other) {
            copyRow(other.packets, packets);
            size = Math.min(other.size, packets.length);
        }
    }

    /** What some packets span, held as at most one packet for each highest block. */
    private static final class Span {
        private final int[] rows = new int[MOST_BLOCKS];
        private int rank = 0;

        /** Answers whether the packet was novel. */
        boolean take(int packet) {
            int rest = packet;
            for (int top = rows.length - 1; top >= 0; top--) {
                int bit = 1 << (VALUE_BITS + top);
                if ((rest & bit) == 0) {
                    continue;
                }
                if (rows[top] == NO_PACKET) {
                    rows[top] = rest;
                    rank++;
                    return true;
                }
                rest ^= rows[top];
            }
            return false;
        }

        /** Of a packet whose set is spanned, no set is left, and the value tells the difference. */
        int reduce(int packet) {
            int rest = packet;
            for (int top = rows.length - 1; top >= 0; top--) {
                int bit = 1 << (VALUE_BITS + top);
                if ((rest & bit) != 0) {
                    rest ^= rows[top];
                }
            }
            return rest;
        }

        void clear() {
            for (int top = 0; top < rows.length; top++) {
                rows[top] = NO_PACKET;
            }
            rank = 0;
        }

        void copyFrom(Span other) {
            copyRow(other.rows, rows);
            rank = other.rank;
        }
    }

    /** The blocks that one way of decoding has found, with the times at which it did. */
    private static final class Findings {
        private final int[] singles = new int[MOST_BLOCKS];
        private final int[] times = new int[MOST_BLOCKS];
        private int count = 0;

        Findings() {
            for (int b = 0; b < times.length; b++) {
                times[b] = NONE;
            }
        }

        boolean has(int block) {
            return block >= 0 && block < singles.length && singles[block] != NO_PACKET;
        }

        /** Takes a packet of one block; one that is found already stays as it is. */
        void add(int single, int time) {
            for (int b = 0; b < singles.length && b < times.length; b++) {
                if (hasBlock(single, b) && singles[b] == NO_PACKET) {
                    singles[b] = single;
                    times[b] = time;
                    count++;
                }
            }
        }

        int valueAt(int block) {
            return has(block) ? valueIn(singles[block]) : NONE;
        }

        int takenOutOf(int packet) {
            int rest = packet;
            for (int b = 0; b < singles.length; b++) {
                if (hasBlock(packet, b)) {
                    rest ^= singles[b];
                }
            }
            return rest;
        }

        void clear() {
            for (int b = 0; b < singles.length && b < times.length; b++) {
                singles[b] = NO_PACKET;
                times[b] = NONE;
            }
            count = 0;
        }

        void copyFrom(Findings other) {
            copyRow(other.singles, singles);
            copyRow(other.times, times);
            count = other.count;
        }
    }

    /** The end of the line, which decodes in both ways at once. */
    private static final class Receiver {
        private final PacketList kept = new PacketList(MOST_BLOCKS);
        private final Span span = new Span();
        private final Findings solved = new Findings();
        private final PacketList waiting = new PacketList(MOST_WAITING);
        private final Findings peeled = new Findings();
        private int arrived = 0;
        private int stale = 0;
        private int mostWaiting = 0;

        /** Notes the waiting packets here, since no tick and no inject() brings two packets. */
        boolean accept(int packet, int time) {
            arrived++;
            peel(packet, time);
            mostWaiting = Math.max(mostWaiting, waiting.size);
            if (!span.take(packet)) {
                stale++;
                return false;
            }
            kept.append(packet);
            solve(time);
            return true;
        }

        private void peel(int packet, int time) {
            int rest = peeled.takenOutOf(packet);
            if (degreeOf(rest) > 1) {
                waiting.removeFrontsBeyond(MOST_WAITING - 1);
                waiting.append(rest);
                return;
            }
            // Each round finds another block, so there are no more rounds than blocks.
            for (int round = 0; round < MOST_BLOCKS && setIn(rest) != 0; round++) {
                peeled.add(rest, time);
                waiting.takeOut(rest);
                rest = waiting.removeFirstSingle();
            }
        }

        private void solve(int time) {
            for (int b = 0; b < MOST_BLOCKS; b++) {
                int rest = span.reduce(packetWith(b, 0));
                if (setIn(rest) == 0) {
                    solved.add(packetWith(b, valueIn(rest)), time);
                }
            }
        }

        void clear() {
            kept.clear();
            span.clear();
            solved.clear();
            waiting.clear();
            peeled.clear();
            arrived = 0;
            stale = 0;
            mostWaiting = 0;
        }

        void copyFrom(Receiver other) {
            kept.copyFrom(other.kept);
            span.copyFrom(other.span);
            solved.copyFrom(other.solved);
            waiting.copyFrom(other.waiting);
            peeled.copyFrom(other.peeled);
            arrived = other.arrived;
            stale = other.stale;
            mostWaiting = other.mostWaiting;
        }
    }

    /** What is set from outside, and the seed, which the draws change too. */
    private static final class Setup {
        private static final int[] FIRST_WEIGHTS = {0, 1, 5, 2, 1, 0, 0};

        private final int[] values = new int[MOST_BLOCKS];
        private final int[] losses = new int[MOST_RELAYS + 1];
        private final int[] weights = new int[MOST_DEGREE + 1];
        private int blocks = FIRST_BLOCKS;
        private int relays = FIRST_RELAYS;
        private int room = FIRST_ROOM;
        private int policy = DROP_OLDEST;
        private int style = FORWARD;
        private int seed = 1;

        Setup() {
            copyRow(FIRST_WEIGHTS, weights);
            giveFirstValues();
        }

        private void giveFirstValues() {
            for (int b = 0; b < values.length; b++) {
                values[b] = 10 * b + 7;
            }
        }

        /** Losses beyond the last link may be left from before; those links are new again. */
        void restart(int newBlocks, int newRelays) {
            for (int link = 0; link < losses.length; link++) {
                if (link > relays) {
                    losses[link] = 0;
                }
            }
            blocks = newBlocks;
            relays = newRelays;
            giveFirstValues();
        }

        int changePolicy(int newPolicy) {
            int before = policy;
            policy = newPolicy;
            return before;
        }

        int changeStyle(int newStyle) {
            int before = style;
            style = newStyle;
            return before;
        }

        int changeSeed(int newSeed) {
            int before = seed;
            seed = newSeed;
            return before;
        }

        int draw(int n) {
            seed = (int) ((1103515245L * seed + 12345L) % 2147483648L);
            return n > 0 ? seed / 65536 % n : 0;
        }

        boolean isLostOn(int link) {
            int number = draw(LOSS_RANGE);
            return link >= 0 && link < losses.length && number < losses[link];
        }

        int weightSum() {
            int sum = 0;
            for (int degree = 1; degree < weights.length; degree++) {
                sum += weights[degree];
            }
            return sum;
        }

        int drawDegree() {
            int number = draw(weightSum());
            int sum = 0;
            for (int degree = 1; degree < weights.length; degree++) {
                sum += weights[degree];
                if (sum > number) {
                    return Math.min(degree, blocks);
                }
            }
            return blocks;
        }

        int drawPacket() {
            int open = drawDegree();
            int set = 0;
            for (int b = 0; b < blocks; b++) {
                if (draw(blocks - b) < open) {
                    set |= 1 << b;
                    open--;
                }
            }
            return packetOf(set);
        }

        int packetOf(int set) {
            int packet = NO_PACKET;
            for (int b = 0; b < blocks && b < values.length; b++) {
                if ((set >> b & 1) != 0) {
                    packet ^= packetWith(b, values[b]);
                }
            }
            return packet;
        }

        void copyFrom(Setup other) {
            copyRow(other.values, values);
            copyRow(other.losses, losses);
            copyRow(other.weights, weights);
            blocks = other.blocks;
            relays = other.relays;
            room = other.room;
            policy = other.policy;
            style = other.style;
            seed = other.seed;
        }
    }

    /** The whole state of one transfer. */
    private static final class Transfer {
        private final Setup setup = new Setup();
        private final PacketList[] stores = new PacketList[MOST_RELAYS];
        private final Receiver receiver = new Receiver();
        private int time = 0;
        private int made = 0;
        private int lost = 0;

        // Worked with inside of one call alone, and so no part of the state.
        private final int[] onLinks = new int[MOST_RELAYS + 1];
        private final Span work = new Span();

        Transfer() {
            for (int i = 0; i < stores.length; i++) {
                stores[i] = new PacketList(MOST_ROOM);
            }
        }

        void restart(int blocks, int relays) {
            setup.restart(blocks, relays);
            for (PacketList store : stores) {
                store.clear();
            }
            receiver.clear();
            time = 0;
            made = 0;
            lost = 0;
        }

        int changeRoom(int room) {
            int before = setup.room;
            setup.room = room;
            for (PacketList store : stores) {
                store.removeFrontsBeyond(room);
            }
            return before;
        }

        boolean isComplete(int how) {
            Findings findings = how == BY_PEELING ? receiver.peeled : receiver.solved;
            return findings.count == setup.blocks;
        }

        /** Null for the source and for what is no node. */
        PacketList listOf(int node) {
            if (node == setup.relays + 1) {
                return receiver.kept;
            }
            return node >= 1 && node <= setup.relays && node <= stores.length ? stores[node - 1] : null;
        }

        int rankOf(PacketList list) {
            work.clear();
            for (int i = 0; i < list.size; i++) {
                work.take(list.at(i));
            }
            return work.rank;
        }

        boolean isNovelFor(PacketList list, int packet) {
            rankOf(list);
            return setIn(work.reduce(packet)) != 0;
        }

        void tick() {
            time++;
            for (int node = 0; node <= setup.relays && node < onLinks.length; node++) {
                onLinks[node] = make(node);
                if (onLinks[node] != NO_PACKET && setup.isLostOn(node)) {
                    onLinks[node] = NO_PACKET;
                    lost++;
                }
            }
            for (int node = 0; node <= setup.relays && node < onLinks.length; node++) {
                if (onLinks[node] == NO_PACKET) {
                    continue;
                }
                if (node == setup.relays) {
                    receiver.accept(onLinks[node], time);
                } else {
                    store(listOf(node + 1), onLinks[node]);
                }
            }
        }

        private int make(int node) {
            if (node == 0) {
                made++;
                return setup.drawPacket();
            }
            PacketList list = listOf(node);
            if (list == null || list.size == 0) {
                return NO_PACKET;
            }
            return setup.style == RECODE ? recode(list) : forward(list);
        }

        private int forward(PacketList list) {
            int packet = list.removeAt(0);
            list.append(packet);
            return packet;
        }

        private int recode(PacketList list) {
            int sum = NO_PACKET;
            boolean any = false;
            for (int i = 0; i < list.size; i++) {
                if (setup.draw(2) == 1) {
                    sum ^= list.at(i);
                    any = true;
                }
            }
            if (!any) {
                return list.at(0);
            }
            return setIn(sum) == 0 ? NO_PACKET : sum;
        }

        private void store(PacketList list, int packet) {
            if (list == null || setup.policy == ONLY_NOVEL && !isNovelFor(list, packet)) {
                return;
            }
            if (list.size < setup.room) {
                list.append(packet);
                return;
            }
            switch (setup.policy) {
                case DROP_NEW:
                    return;
                case ONLY_NOVEL:
                    list.removeAt(list.placeOfMostCommon(packet));
                    list.append(packet);
                    return;
                case COMBINE:
                    int sum = list.removeAt(0) ^ packet;
                    if (setIn(sum) != 0) {
                        list.append(sum);
                    }
                    return;
                default:
                    list.removeAt(0);
                    list.append(packet);
            }
        }

        void copyFrom(Transfer other) {
            setup.copyFrom(other.setup);
            for (int i = 0; i < stores.length && i < other.stores.length; i++) {
                stores[i].copyFrom(other.stores[i]);
            }
            receiver.copyFrom(other.receiver);
            time = other.time;
            made = other.made;
            lost = other.lost;
        }
    }
}
