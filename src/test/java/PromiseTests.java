/**
 * A test or more for each promise, worked out by hand from the document. With the seed 1, the draws
 * are 16838, 5758, 10113, 17515, 31051, 5627, 23010, 7419, 16212, 4086, 2749, 12767, 9084, 12060,
 * 32225, 17543, 25089, 21183, 25137, 25566, .. before the modulo.
 */
public final class PromiseTests {
    private static final int BAD = RelayTransfer.BAD;
    private static final int STATE = RelayTransfer.STATE;
    private static final int NONE = RelayTransfer.NONE;
    private static final int MIN = Integer.MIN_VALUE;
    private static final int MAX = Integer.MAX_VALUE;

    private final Checks checks = new Checks();

    public static void main(String[] args) {
        PromiseTests tests = new PromiseTests();
        tests.newObject();
        tests.begin();
        tests.beginAndLosses();
        tests.setBlock();
        tests.setLoss();
        tests.setWeight();
        tests.set();
        tests.roomBecomesSmaller();
        tests.runWithoutRelays();
        tests.runLosesPackets();
        tests.runWithSingles();
        tests.policiesOfFullStores();
        tests.policyCombinesAndDropsNothing();
        tests.styleOneCombines();
        tests.inject();
        tests.waitingIsLimited();
        tests.peelingGoesOn();
        tests.undo();
        tests.told();
        tests.block();
        tests.packet();
        tests.waiting();
        tests.node();
        tests.novel();
        tests.overhead();
        tests.forecast();
        tests.bestPolicy();
        tests.bearable();
        tests.keepAndBack();
        tests.askingChangesNothing();
        tests.checks.finish("PromiseTests");
    }

    private void due(String call, long got, long want) {
        checks.due(call, got, want);
    }

    /** Packets of the source have one block each. */
    private static RelayTransfer withSingles(int blocks, int relays) {
        RelayTransfer x = new RelayTransfer();
        x.begin(blocks, relays);
        x.setWeight(2, 0);
        x.setWeight(3, 0);
        x.setWeight(4, 0);
        return x;
    }

    private static String listAt(RelayTransfer x, int node, int what) {
        StringBuilder text = new StringBuilder();
        for (int k = 0; x.packet(node, k, what) >= 0; k++) {
            text.append(k == 0 ? "" : " ").append(x.packet(node, k, what));
        }
        return text.toString();
    }

    private void dueList(String when, RelayTransfer x, int node, String want) {
        String got = listAt(x, node, 0);
        checks.holds(when + ", list of node " + node + ": " + got + ", due is " + want, got.equals(want));
    }

    private void newObject() {
        RelayTransfer x = new RelayTransfer();
        int[] want = {4, 1, 0, 2, 0, 0, 1, 0, 0, 0, 0, 0, 0, 0, 0, 0, 0};
        for (int what = 0; what < want.length; what++) {
            due("new: told(" + what + ")", x.told(what), want[what]);
        }
        for (int b = 0; b < 4; b++) {
            due("new: block(" + b + ", 0)", x.block(b, 0), 10 * b + 7);
        }
        int[] weights = {1, 5, 2, 1, 0, 0};
        for (int degree = 1; degree <= 6; degree++) {
            due("new: weight " + degree, x.setWeight(degree, 9), weights[degree - 1]);
        }
        x = new RelayTransfer();
        due("new: loss 0", x.node(0, 2), 0);
        due("new: loss 1", x.node(1, 2), 0);
        due("new: list of 1", x.node(1, 0), 0);
        due("new: back(0)", x.back(0), STATE);
        due("new: back(1)", x.back(1), STATE);
        due("new: undo()", x.undo(), STATE);
    }

    private void begin() {
        int[][] wrong = {{1, 0}, {13, 0}, {2, -1}, {2, 4}, {MIN, 0}, {MAX, 0}, {2, MIN}, {2, MAX}};
        RelayTransfer x = new RelayTransfer();
        for (int[] w : wrong) {
            due("begin(" + w[0] + ", " + w[1] + ")", x.begin(w[0], w[1]), BAD);
        }
        due("told(16) after wrong begins", x.told(16), 0);
        x.setBlock(1, 200);
        x.set(0, 3);
        x.set(1, 2);
        x.set(2, 1);
        x.setWeight(5, 8);
        x.inject(3);
        x.run(7);
        int seed = x.told(6);
        due("begin(12, 3) at 7", x.begin(12, 3), 7);
        int[] want = {12, 3, 0, 3, 2, 1, seed, 0, 0, 0, 0, 0, 0, 0, 0, 0, 8};
        for (int what = 0; what < want.length; what++) {
            due("begun: told(" + what + ")", x.told(what), want[what]);
        }
        for (int b = 0; b < 12; b++) {
            due("begun: block(" + b + ", 0)", x.block(b, 0), 10 * b + 7);
            for (int what = 1; what <= 4; what++) {
                due("begun: block(" + b + ", " + what + ")", x.block(b, what), NONE);
            }
        }
        for (int node = 1; node <= 4; node++) {
            due("begun: node(" + node + ", 0)", x.node(node, 0), 0);
        }
        due("begun: weight 5", x.setWeight(5, 0), 8);
        due("begin(2, 0)", x.begin(2, 0), 0);
    }

    private void beginAndLosses() {
        RelayTransfer x = new RelayTransfer();
        x.begin(4, 3);
        for (int link = 0; link <= 3; link++) {
            x.setLoss(link, 10 + link);
        }
        x.begin(4, 1);
        due("loss 0 after fewer relays", x.node(0, 2), 10);
        due("loss 1 after fewer relays", x.node(1, 2), 11);
        x.begin(4, 3);
        due("loss 1 stays", x.node(1, 2), 11);
        due("loss 2 is new", x.node(2, 2), 0);
        due("loss 3 is new", x.node(3, 2), 0);
        x.undo();
        x.undo();
        due("loss 3 after undo", x.node(3, 2), 13);
    }

    private void setBlock() {
        RelayTransfer x = new RelayTransfer();
        int[][] wrong = {{-1, 0}, {4, 0}, {0, -1}, {0, 256}, {MIN, 0}, {MAX, 0}, {0, MIN}, {0, MAX}};
        for (int[] w : wrong) {
            due("setBlock(" + w[0] + ", " + w[1] + ")", x.setBlock(w[0], w[1]), BAD);
        }
        due("setBlock(3, 255)", x.setBlock(3, 255), 37);
        due("setBlock(3, 0)", x.setBlock(3, 0), 255);
        due("block(3, 0)", x.block(3, 0), 0);
        due("told(16)", x.told(16), 2);
        x.inject(8);
        due("block(3, 1), a value of 0", x.block(3, 1), 0);
        due("block(3, 2), a value of 0", x.block(3, 2), 0);
        due("setBlock after an arrival", x.setBlock(3, 1), STATE);
        due("setBlock after an arrival, wrong too", x.setBlock(4, 1), BAD);
        x.undo();
        due("setBlock after undo", x.setBlock(3, 1), 0);
        x.setLoss(0, 99);
        x.run(1);
        due("no arrival", x.told(9), 0);
        due("setBlock at the time 1", x.setBlock(3, 1), STATE);
        x.begin(4, 1);
        due("setBlock after begin", x.setBlock(3, 9), 37);
    }

    private void setLoss() {
        RelayTransfer x = new RelayTransfer();
        int[][] wrong = {{-1, 0}, {2, 0}, {0, -1}, {0, 100}, {MIN, 0}, {MAX, 0}, {0, MIN}, {0, MAX}};
        for (int[] w : wrong) {
            due("setLoss(" + w[0] + ", " + w[1] + ")", x.setLoss(w[0], w[1]), BAD);
        }
        due("setLoss(1, 99)", x.setLoss(1, 99), 0);
        due("setLoss(1, 0)", x.setLoss(1, 0), 99);
        due("told(16)", x.told(16), 2);
    }

    private void setWeight() {
        RelayTransfer x = new RelayTransfer();
        int[][] wrong = {{0, 1}, {7, 1}, {1, -1}, {1, 10}, {MIN, 1}, {MAX, 1}, {1, MIN}, {1, MAX}};
        for (int[] w : wrong) {
            due("setWeight(" + w[0] + ", " + w[1] + ")", x.setWeight(w[0], w[1]), BAD);
        }
        x.setWeight(2, 0);
        x.setWeight(3, 0);
        x.setWeight(4, 0);
        due("setWeight(1, 0), the last one", x.setWeight(1, 0), STATE);
        due("setWeight(7, 0), the last one", x.setWeight(7, 0), BAD);
        due("told(16)", x.told(16), 3);
        due("setWeight(5, 0), no other", x.setWeight(5, 0), 0);
        due("setWeight(6, 9)", x.setWeight(6, 9), 0);
        due("setWeight(1, 0)", x.setWeight(1, 0), 1);
        x.run(1);
        due("degree above K", x.packet(1, 0, 2), 4);
    }

    private void set() {
        RelayTransfer x = new RelayTransfer();
        int[][] wrong = {{-1, 0}, {4, 0}, {0, 0}, {0, 5}, {1, -1}, {1, 4}, {2, -1}, {2, 2}, {3, -1}, {3, MIN},
            {MIN, 0}, {MAX, 0}, {0, MAX}, {1, MAX}, {2, MIN}};
        for (int[] w : wrong) {
            due("set(" + w[0] + ", " + w[1] + ")", x.set(w[0], w[1]), BAD);
        }
        due("told(16) after wrong ones", x.told(16), 0);
        int[][] right = {{0, 4, 2}, {0, 1, 4}, {1, 3, 0}, {1, 0, 3}, {2, 1, 0}, {2, 0, 1}, {3, MAX, 1}, {3, 0, MAX}};
        for (int[] r : right) {
            due("set(" + r[0] + ", " + r[1] + ")", x.set(r[0], r[1]), r[2]);
            due("told(" + (3 + r[0]) + ")", x.told(3 + r[0]), r[1]);
        }
        x.set(3, MAX);
        x.run(1);
        due("seed of MAX after five draws and a loss", x.told(6), seedAfter(MAX, 6));
    }

    private static int seedAfter(long seed, int draws) {
        long s = seed;
        for (int i = 0; i < draws; i++) {
            s = (s * 1103515245L + 12345L) & MAX;
        }
        return (int) s;
    }

    private void roomBecomesSmaller() {
        RelayTransfer x = new RelayTransfer();
        x.set(0, 4);
        x.run(4);
        int third = x.packet(1, 2, 0), fourth = x.packet(1, 3, 0);
        due("four in the store", x.node(1, 0), 4);
        x.set(0, 2);
        due("two are left", x.node(1, 0), 2);
        due("the third comes to the front", x.packet(1, 0, 0), third);
        due("the fourth follows", x.packet(1, 1, 0), fourth);
        x.set(0, 4);
        due("more room brings none back", x.packet(1, 2, 0), NONE);
        x.undo();
        x.undo();
        due("undo does", x.packet(1, 2, 0), third);
    }

    private void runWithoutRelays() {
        RelayTransfer x = new RelayTransfer();
        for (int n : new int[] {0, -1, 101, MIN, MAX}) {
            due("run(" + n + ")", x.run(n), BAD);
        }
        x.begin(2, 0);
        due("run(1)", x.run(1), 1);
        due("the degree 4 becomes K", x.packet(1, 0, 0), 3);
        due("its value", x.packet(1, 0, 1), 22);
        due("four draws", x.told(6), seedAfter(1, 4));
        due("the next one is not novel", x.run(1), 1);
        due("made", x.told(7), 2);
        due("arrived", x.told(9), 2);
        due("not novel", x.told(10), 1);
        due("waiting", x.told(13), 2);
        due("told(16): a change each", x.told(16), 3);
        x.run(100);
        due("time", x.told(2), 102);
        due("told(16): many ticks are one change", x.told(16), 4);
    }

    /** The loss of the first packet is drawn as 17515, so 15 is not less than 15. */
    private void runLosesPackets() {
        RelayTransfer x = new RelayTransfer();
        x.begin(2, 0);
        x.setLoss(0, 15);
        x.run(1);
        due("loss 15: lost", x.told(8), 0);
        due("loss 15: arrived", x.told(9), 1);
        x.undo();
        x.setLoss(0, 16);
        due("loss 16: run(1)", x.run(1), 0);
        due("loss 16: made", x.told(7), 1);
        due("loss 16: lost", x.told(8), 1);
        due("loss 16: arrived", x.told(9), 0);
        due("loss 16: draws", x.told(6), seedAfter(1, 4));
    }

    private void runWithSingles() {
        RelayTransfer x = withSingles(2, 0);
        due("run(2)", x.run(2), 2);
        dueList("after two ticks", x, 1, "1 2");
        due("block(0, 3)", x.block(0, 3), 1);
        due("block(1, 3)", x.block(1, 3), 2);
        due("block(0, 4)", x.block(0, 4), 1);
        due("block(1, 4)", x.block(1, 4), 2);
        due("none waited", x.told(15), 0);
        x = withSingles(2, 1);
        x.run(1);
        due("an empty store makes none and draws nothing", x.told(6), seedAfter(1, 4));
        due("on its way", x.told(9), 0);
        x.run(1);
        due("the relay draws a loss then", x.told(6), seedAfter(1, 9));
        dueList("at the relay", x, 1, "1 2");
        dueList("at the receiver", x, 2, "1");
    }

    /** The source sends 1, 2, 2, 2, 1; in the third tick the store is 2 1 when another 2 comes. */
    private void policiesOfFullStores() {
        String[] after = {"1 2", "2 1", "2 1", "1"};
        for (int policy = 0; policy <= 3; policy++) {
            RelayTransfer x = withSingles(2, 1);
            x.set(1, policy);
            x.run(3);
            dueList("policy " + policy, x, 1, after[policy]);
        }
        String[] small = {"2", "1", "2", "3"};
        for (int policy = 0; policy <= 3; policy++) {
            RelayTransfer x = withSingles(2, 1);
            x.set(0, 1);
            x.set(1, policy);
            x.run(2);
            dueList("policy " + policy + ", room 1", x, 1, small[policy]);
        }
    }

    private void policyCombinesAndDropsNothing() {
        RelayTransfer x = withSingles(2, 1);
        x.set(0, 4);
        x.set(1, 2);
        x.run(9);
        due("only novel ones come into a store with room", x.node(1, 0), 2);
        x = withSingles(2, 1);
        x.set(0, 1);
        x.set(1, 3);
        x.run(2);
        due("a combined value", x.packet(1, 0, 1), 7 ^ 17);
        x.run(1);
        dueList("3 and 2", x, 1, "1");
    }

    /** Draws of the relay: 16212 in the second tick, 32225 and 17543 in the third one. */
    private void styleOneCombines() {
        RelayTransfer x = withSingles(2, 1);
        x.set(2, 1);
        x.run(2);
        dueList("no 1 drawn: the front alone", x, 2, "1");
        due("draws", x.told(6), seedAfter(1, 10));
        dueList("the list stays", x, 1, "1 2");
        x.run(1);
        dueList("both combined", x, 2, "1 3");
        due("draws", x.told(6), seedAfter(1, 17));
        dueList("the list stays, and 2 comes", x, 1, "2 2");
        due("solved", x.told(14), 2);
        due("peeled", x.told(12), 2);
    }

    private void inject() {
        RelayTransfer x = new RelayTransfer();
        for (int set : new int[] {0, -1, 16, MIN, MAX}) {
            due("inject(" + set + ")", x.inject(set), BAD);
        }
        due("told(16) after wrong ones", x.told(16), 0);
        due("inject(15)", x.inject(15), 1);
        due("inject(15) again", x.inject(15), 0);
        due("arrived", x.told(9), 2);
        due("made", x.told(7), 0);
        due("time", x.told(2), 0);
        due("seed", x.told(6), 1);
        due("waiting", x.told(13), 2);
        due("value", x.packet(2, 0, 1), 7 ^ 17 ^ 27 ^ 37);
        due("told(16)", x.told(16), 2);
        x.begin(12, 0);
        due("inject(4095)", x.inject(4095), 1);
        due("inject(4096)", x.inject(4096), BAD);
    }

    private void waitingIsLimited() {
        RelayTransfer x = new RelayTransfer();
        x.begin(12, 0);
        x.inject(7);
        for (int i = 0; i < 19; i++) {
            x.inject(3 << i % 10);
        }
        due("twenty wait", x.told(13), 20);
        due("front", x.waiting(0, 0), 7);
        x.inject(4095);
        due("twenty still", x.told(13), 20);
        due("the front went", x.waiting(0, 0), 3);
        due("the new one came to the end", x.waiting(19, 0), 4095);
        due("no more", x.waiting(20, 0), NONE);
        due("at most twenty at the end of an inject", x.told(15), 20);
        x.inject(1);
        due("a chain is peeled up to the last block", x.told(12), 12);
        due("what is left of the last one", x.told(13), 0);
        due("most stays", x.told(15), 20);
    }

    private void peelingGoesOn() {
        RelayTransfer x = new RelayTransfer();
        x.inject(6);
        x.inject(3);
        x.inject(14);
        x.inject(6);
        due("four wait", x.told(13), 4);
        x.inject(1);
        due("1, then 2, then 4, then 8", x.told(12), 4);
        due("none wait", x.told(13), 0);
        due("block(3, 1)", x.block(3, 1), 37);
        due("by elimination", x.told(14), 4);
        x.inject(8);
        due("known already", x.told(12), 4);
        due("arrived", x.told(9), 6);
        due("not novel", x.told(10), 2);
        x = new RelayTransfer();
        x.inject(3);
        x.inject(5);
        x.inject(6);
        due("not novel by elimination, waiting all the same", x.told(13), 3);
        x.inject(7);
        due("elimination solves all three", x.told(14), 3);
        due("peeling none", x.told(12), 0);
        due("block(1, 2)", x.block(1, 2), 17);
        due("block(1, 1)", x.block(1, 1), NONE);
    }

    private void undo() {
        RelayTransfer x = new RelayTransfer();
        for (int i = 1; i <= 9; i++) {
            x.setBlock(0, i);
            due("told(16)", x.told(16), Math.min(i, 8));
        }
        for (int i = 7; i >= 0; i--) {
            due("undo()", x.undo(), i);
            due("block(0, 0)", x.block(0, 0), i + 1);
        }
        due("undo() with none", x.undo(), STATE);
        due("the oldest one was dropped", x.block(0, 0), 1);
        x.setLoss(0, 0);
        due("a change that changes nothing", x.undo(), 0);
        x.run(30);
        x.set(1, 3);
        x.begin(2, 0);
        x.undo();
        due("begin undone", x.told(2), 30);
        x.undo();
        x.undo();
        due("run undone: seed", x.told(6), 1);
        due("run undone: time", x.told(2), 0);
        due("run undone: made", x.told(7), 0);
        due("run undone: store", x.node(1, 0), 0);
        due("run undone: known", x.told(12), 0);
        due("run undone: most waiting", x.told(15), 0);
        due("run undone: block(0, 3)", x.block(0, 3), NONE);
    }

    private void told() {
        RelayTransfer x = new RelayTransfer();
        for (int what : new int[] {-1, 17, MIN, MAX}) {
            due("told(" + what + ")", x.told(what), BAD);
        }
        x.begin(3, 2);
        x.set(0, 3);
        x.set(1, 1);
        x.set(2, 1);
        x.set(3, 77);
        x.inject(3);
        x.inject(6);
        x.inject(5);
        int[] want = {3, 2, 0, 3, 1, 1, 77, 0, 0, 3, 1, 2, 0, 3, 0, 3, 8};
        for (int what = 0; what < want.length; what++) {
            due("told(" + what + ")", x.told(what), want[what]);
        }
        x.inject(4);
        due("told(12)", x.told(12), 3);
        due("told(13)", x.told(13), 0);
        due("told(14)", x.told(14), 3);
        due("told(15)", x.told(15), 3);
    }

    private void block() {
        RelayTransfer x = new RelayTransfer();
        int[][] wrong = {{-1, 0}, {4, 0}, {0, -1}, {0, 5}, {MIN, 0}, {MAX, 0}, {0, MIN}, {0, MAX}};
        for (int[] w : wrong) {
            due("block(" + w[0] + ", " + w[1] + ")", x.block(w[0], w[1]), BAD);
        }
        x.run(1);
        x.begin(4, 1);
        x.setLoss(0, 99);
        x.setBlock(2, 99);
        x.inject(4);
        int[] want = {99, 99, 99, 0, 0};
        for (int what = 0; what <= 4; what++) {
            due("block(2, " + what + ")", x.block(2, what), want[what]);
        }
        due("block(1, 0)", x.block(1, 0), 17);
        for (int what = 1; what <= 4; what++) {
            due("block(1, " + what + ")", x.block(1, what), NONE);
        }
    }

    private void packet() {
        RelayTransfer x = new RelayTransfer();
        int[][] wrong = {{0, 0, 0}, {-1, 0, 0}, {3, 0, 0}, {1, -1, 0}, {2, 0, -1}, {2, 0, 3}, {MIN, 0, 0},
            {MAX, 0, 0}, {1, MIN, 0}, {2, 9, 3}};
        for (int[] w : wrong) {
            due("packet(" + w[0] + ", " + w[1] + ", " + w[2] + ")", x.packet(w[0], w[1], w[2]), BAD);
        }
        due("packet(1, 0, 0), empty", x.packet(1, 0, 0), NONE);
        due("packet(1, MAX, 0)", x.packet(1, MAX, 0), NONE);
        x.inject(6);
        x.inject(6);
        x.inject(2);
        due("packet(2, 0, 0)", x.packet(2, 0, 0), 6);
        due("packet(2, 0, 1)", x.packet(2, 0, 1), 17 ^ 27);
        due("packet(2, 0, 2)", x.packet(2, 0, 2), 2);
        due("packet(2, 1, 0), as it arrived", x.packet(2, 1, 0), 2);
        due("packet(2, 2, 0)", x.packet(2, 2, 0), NONE);
    }

    private void waiting() {
        RelayTransfer x = new RelayTransfer();
        int[][] wrong = {{-1, 0}, {MIN, 0}, {0, -1}, {0, 3}, {0, MAX}, {MAX, 3}};
        for (int[] w : wrong) {
            due("waiting(" + w[0] + ", " + w[1] + ")", x.waiting(w[0], w[1]), BAD);
        }
        due("waiting(0, 0)", x.waiting(0, 0), NONE);
        due("waiting(MAX, 2)", x.waiting(MAX, 2), NONE);
        x.inject(1);
        x.inject(7);
        due("as it is without what is known", x.waiting(0, 0), 6);
        due("its value", x.waiting(0, 1), 17 ^ 27);
        due("its degree", x.waiting(0, 2), 2);
        due("the kept one is as it arrived", x.packet(2, 1, 0), 7);
    }

    private void node() {
        RelayTransfer x = new RelayTransfer();
        int[][] wrong = {{-1, 0}, {3, 0}, {0, -1}, {0, 3}, {MIN, 0}, {MAX, 0}, {2, MIN}, {2, MAX}};
        for (int[] w : wrong) {
            due("node(" + w[0] + ", " + w[1] + ")", x.node(w[0], w[1]), BAD);
        }
        due("node(0, 0)", x.node(0, 0), 4);
        due("node(0, 1)", x.node(0, 1), 4);
        x.setLoss(0, 5);
        x.setLoss(1, 6);
        due("node(0, 2)", x.node(0, 2), 5);
        due("node(1, 2)", x.node(1, 2), 6);
        due("node(2, 2)", x.node(2, 2), NONE);
        x.inject(3);
        x.inject(3);
        due("node(2, 0)", x.node(2, 0), 1);
        due("node(2, 1)", x.node(2, 1), 1);
        x = withSingles(2, 1);
        x.set(2, 1);
        x.run(3);
        due("two of a kind", x.node(1, 0), 2);
        due("their rank", x.node(1, 1), 1);
    }

    private void novel() {
        RelayTransfer x = new RelayTransfer();
        int[][] wrong = {{0, 1}, {-1, 1}, {3, 1}, {1, 0}, {1, -1}, {1, 16}, {MIN, 1}, {MAX, 1}, {2, MIN}, {2, MAX}};
        for (int[] w : wrong) {
            due("novel(" + w[0] + ", " + w[1] + ")", x.novel(w[0], w[1]), BAD);
        }
        due("novel(1, 15), empty", x.novel(1, 15), 1);
        x.inject(3);
        x.inject(6);
        int[] spanned = {3, 5, 6};
        for (int set = 1; set <= 15; set++) {
            boolean in = set == spanned[0] || set == spanned[1] || set == spanned[2];
            due("novel(2, " + set + ")", x.novel(2, set), in ? 0 : 1);
        }
        x = withSingles(2, 1);
        x.run(1);
        due("novel(1, 1) at a relay", x.novel(1, 1), 0);
        due("novel(1, 2) at a relay", x.novel(1, 2), 1);
        due("novel(1, 3) at a relay", x.novel(1, 3), 1);
    }

    private void overhead() {
        RelayTransfer x = new RelayTransfer();
        checks.due("overhead() of none", x.overhead(), 0.0f);
        x.inject(1);
        checks.due("overhead() of one", x.overhead(), 1.0f);
        x.inject(1);
        x.inject(2);
        x.inject(3);
        x.inject(4);
        checks.due("overhead() of five", x.overhead(), 5.0f / 3.0f);
    }

    /** Without relays, the singles are 1, 2, 1, 1, 2, and their losses are drawn as 15, 19, 67, 43, 66. */
    private void forecast() {
        RelayTransfer x = withSingles(2, 0);
        for (int how : new int[] {-1, 2, MIN, MAX}) {
            due("forecast(" + how + ")", x.forecast(how), BAD);
        }
        due("forecast(0)", x.forecast(0), 2);
        due("forecast(1)", x.forecast(1), 2);
        x.setLoss(0, 20);
        due("forecast(0) with the loss 20", x.forecast(0), 5);
        x.run(4);
        due("forecast(1) in the midst", x.forecast(1), 1);
        x.run(1);
        due("forecast(0), all known", x.forecast(0), 0);
        due("forecast(1), all known", x.forecast(1), 0);
        x = new RelayTransfer();
        x.inject(7);
        x.inject(11);
        x.inject(13);
        x.inject(14);
        due("forecast(1), solved", x.forecast(1), 0);
        checks.holds("forecast(0), not yet peeled", x.forecast(0) != 0);
        x = new RelayTransfer();
        x.begin(2, 0);
        x.setWeight(6, 1);
        for (int degree = 1; degree <= 4; degree++) {
            x.setWeight(degree, 0);
        }
        due("forecast(0) of nothing but 3", x.forecast(0), NONE);
        due("forecast(1) of nothing but 3", x.forecast(1), NONE);
        x.inject(1);
        due("forecast(0) of 3 after 1", x.forecast(0), 1);
    }

    private void bestPolicy() {
        RelayTransfer x = withSingles(2, 1);
        int[] ticks = new int[4];
        for (int policy = 0; policy <= 3; policy++) {
            x.set(1, policy);
            ticks[policy] = x.forecast(1);
        }
        due("ticks of policy 1", ticks[1], 4);
        due("ticks of policy 2", ticks[2], 4);
        due("policy 0 sends the first one for ever", ticks[0], NONE);
        due("so does policy 3", ticks[3], NONE);
        due("bestPolicy(), the lowest of two", x.bestPolicy(), 1);
        due("the policy stays", x.told(4), 3);
        x.set(0, 1);
        due("bestPolicy() with room 1", x.bestPolicy(), 0);
        x.inject(1);
        x.inject(2);
        due("bestPolicy(), all known", x.bestPolicy(), 0);
        x.begin(2, 1);
        x.setWeight(6, 1);
        x.setWeight(1, 0);
        due("bestPolicy() of nothing but 3", x.bestPolicy(), NONE);
    }

    /** The singles are 1, 2, 1, 1, 2, and their losses are drawn as 15, 19, 67, 43, 66. */
    private void bearable() {
        RelayTransfer x = withSingles(2, 0);
        int[][] wrong = {{-1, 0}, {1, 0}, {0, -1}, {0, 101}, {MIN, 0}, {MAX, 0}, {0, MIN}, {0, MAX}};
        for (int[] w : wrong) {
            due("bearable(" + w[0] + ", " + w[1] + ")", x.bearable(w[0], w[1]), BAD);
        }
        int[] want = {NONE, NONE, 15, 19, 19, 66};
        for (int ticks = 0; ticks <= 5; ticks++) {
            due("bearable(0, " + ticks + ")", x.bearable(0, ticks), want[ticks]);
        }
        x.setLoss(0, 77);
        due("whatever loss is set", x.bearable(0, 2), 15);
        due("the loss stays", x.node(0, 2), 77);
        x.inject(1);
        x.inject(3);
        due("bearable(0, 0), all solved", x.bearable(0, 0), 99);
        due("bearable(0, 100), all solved", x.bearable(0, 100), 99);
        for (int seed = 0; seed < 700; seed++) {
            x = withSingles(2, 0);
            x.set(3, seed);
            x.inject(1);
            int drawn = seedAfter(seed, 4) / 65536 % 100;
            int degreeAndBlock = seedAfter(seed, 2) / 65536 % 2;
            due("bearable(0, 1) for a drawn loss", x.bearable(0, 1), degreeAndBlock == 1 ? drawn : NONE);
        }
    }

    private void keepAndBack() {
        RelayTransfer x = new RelayTransfer();
        for (int i : new int[] {-1, 2, MIN, MAX}) {
            due("keep(" + i + ")", x.keep(i), BAD);
            due("back(" + i + ")", x.back(i), BAD);
        }
        due("back(0), nothing kept", x.back(0), STATE);
        x.run(5);
        due("keep(0)", x.keep(0), 5);
        due("keep is no change", x.told(16), 1);
        due("back(1), nothing kept", x.back(1), STATE);
        int seed = x.told(6), front = x.packet(1, 0, 0);
        x.run(10);
        x.undo();
        x.run(20);
        due("keep(1)", x.keep(1), 25);
        x.begin(2, 0);
        due("back(0)", x.back(0), 5);
        due("it is a change", x.told(16), 4);
        due("told(0)", x.told(0), 4);
        due("told(6)", x.told(6), seed);
        due("packet(1, 0, 0)", x.packet(1, 0, 0), front);
        due("back(1)", x.back(1), 25);
        due("back(0) again", x.back(0), 5);
        x.run(1);
        due("the image stays as it was", x.back(0), 5);
        x.undo();
        due("back undone", x.told(2), 6);
        x.keep(0);
        due("undo leaves the images alone", x.undo() + x.told(2), 5 + x.told(16));
        due("replaced", x.back(0), 6);
    }

    private void askingChangesNothing() {
        RelayTransfer x = new RelayTransfer();
        x.setLoss(0, 30);
        x.setLoss(1, 40);
        x.run(6);
        int[] before = new int[17];
        for (int what = 0; what < before.length; what++) {
            before[what] = x.told(what);
        }
        String store = listAt(x, 1, 0), kept = listAt(x, 2, 1);
        x.forecast(0);
        x.forecast(1);
        x.bestPolicy();
        x.bearable(1, 100);
        x.novel(1, 5);
        x.keep(0);
        x.overhead();
        for (int what = 0; what < before.length; what++) {
            due("told(" + what + ") after questions", x.told(what), before[what]);
        }
        checks.holds("the lists stay", store.equals(listAt(x, 1, 0)) && kept.equals(listAt(x, 2, 1)));
        due("the losses stay", 100 * x.node(0, 2) + x.node(1, 2), 3040);
    }
}
