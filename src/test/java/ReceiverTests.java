/**
 * What the receiver makes of what arrives: peeling with the waiting packets at none, 20 and beyond,
 * elimination with none kept up to K kept, and what is told of both. inject() brings the packets.
 */
public final class ReceiverTests {
    private static final int NONE = -9;

    private final Checks checks = new Checks();

    public static void main(String[] args) {
        ReceiverTests tests = new ReceiverTests();
        tests.nothingIsLeft();
        tests.oneBlockIsLeft();
        tests.moreBlocksAreLeft();
        tests.knownBlocksAreTakenOutOfWaitingOnes();
        tests.peelingGoesOnUntilThereIsNone();
        tests.equalWaitingPackets();
        tests.order();
        tests.waitingUpToTwenty();
        tests.waitingBeyondTwenty();
        tests.twentyWaitAndOneBlockComes();
        tests.greatestNumberOfWaiting();
        tests.greatestNumberAtTheEndOfEachTick();
        tests.waitingIsAsked();
        tests.keptUpToAllBlocks();
        tests.solvedWhenSpanned();
        tests.bothWaysDiffer();
        tests.timesOfBlocks();
        tests.countsOfInject();
        tests.valuesOfZeroAndTheGreatest();
        tests.keptAreAskedAsTheyArrived();
        tests.novelAtTheReceiver();
        tests.rankAndOverhead();
        tests.checks.finish("ReceiverTests");
    }

    private void due(String call, long got, long want) {
        checks.due(call, got, want);
    }

    private static RelayTransfer with(int blocks, int... sets) {
        RelayTransfer x = new RelayTransfer();
        x.begin(blocks, 0);
        for (int set : sets) {
            x.inject(set);
        }
        return x;
    }

    private void dueWaiting(String when, RelayTransfer x, int... sets) {
        due(when + ": waiting", x.told(13), sets.length);
        for (int k = 0; k < sets.length; k++) {
            due(when + ": waiting(" + k + ", 0)", x.waiting(k, 0), sets[k]);
            due(when + ": waiting(" + k + ", 1)", x.waiting(k, 1), Story.firstValueOf(sets[k]));
            due(when + ": waiting(" + k + ", 2)", x.waiting(k, 2), Integer.bitCount(sets[k]));
        }
        for (int what = 0; what <= 2; what++) {
            due(when + ": waiting, one beyond", x.waiting(sets.length, what), NONE);
        }
    }

    private void dueKnown(String when, RelayTransfer x, int set) {
        due(when + ": known by peeling", x.told(12), Integer.bitCount(set));
        for (int b = 0; b < x.told(0); b++) {
            boolean known = (set >> b & 1) == 1;
            due(when + ": block(" + b + ", 1)", x.block(b, 1), known ? 10 * b + 7 : NONE);
            due(when + ": block(" + b + ", 3)", x.block(b, 3), known ? 0 : NONE);
        }
    }

    private void dueSolved(String when, RelayTransfer x, int set) {
        due(when + ": solved", x.told(14), Integer.bitCount(set));
        for (int b = 0; b < x.told(0); b++) {
            boolean solved = (set >> b & 1) == 1;
            due(when + ": block(" + b + ", 2)", x.block(b, 2), solved ? 10 * b + 7 : NONE);
            due(when + ": block(" + b + ", 4)", x.block(b, 4), solved ? 0 : NONE);
        }
    }

    private void nothingIsLeft() {
        RelayTransfer x = with(5, 1, 2, 24);
        due("inject(3), known already", x.inject(3), 0);
        dueWaiting("nothing left of 3", x, 24);
        due("inject(1) again", x.inject(1), 0);
        dueWaiting("nothing left of 1", x, 24);
        dueKnown("nothing left", x, 3);
        due("arrived", x.told(9), 5);
        due("not novel", x.told(10), 2);
    }

    private void oneBlockIsLeft() {
        RelayTransfer x = with(5, 4);
        dueKnown("a packet of one block", x, 4);
        dueWaiting("a packet of one block", x);
        x.inject(20);
        dueKnown("16 is left of 20", x, 20);
        dueWaiting("16 is left of 20", x);
        x = with(5, 1, 2, 4, 8, 31);
        dueKnown("16 is left of all", x, 31);
        dueWaiting("16 is left of all", x);
    }

    private void moreBlocksAreLeft() {
        RelayTransfer x = with(5, 1, 4, 31);
        dueKnown("two taken out", x, 5);
        dueWaiting("two taken out", x, 26);
        due("kept as it arrived", x.packet(1, 2, 0), 31);
        due("its value", x.packet(1, 2, 1), Story.firstValueOf(31));
        x.inject(3 + 8);
        dueWaiting("to the end", x, 26, 10);
        due("kept as it arrived", x.packet(1, 3, 0), 11);
        x = with(4, 15);
        dueWaiting("nothing known", x, 15);
        dueKnown("nothing known", x, 0);
    }

    private void knownBlocksAreTakenOutOfWaitingOnes() {
        RelayTransfer x = with(5, 14, 25, 28, 13);
        dueWaiting("four wait", x, 14, 25, 28, 13);
        x.inject(8);
        dueWaiting("8 taken out of all", x, 6, 17, 20, 5);
        dueKnown("8 is known", x, 8);
        x.inject(2);
        dueKnown("2, and with it 4, 16, 1", x, 31);
        dueWaiting("none is left", x);
    }

    private void peelingGoesOnUntilThereIsNone() {
        RelayTransfer x = with(12, 3, 6, 12, 24, 48, 96, 192, 384, 768, 1536, 3072);
        due("eleven wait", x.told(13), 11);
        due("rank", x.told(11), 11);
        dueSolved("none solved", x, 0);
        x.inject(2048);
        dueKnown("from the last to the first", x, 4095);
        dueWaiting("none left", x);
        dueSolved("all at once", x, 4095);
        x = with(6, 3, 48, 6, 12);
        x.inject(2);
        dueKnown("it ends where there is none", x, 15);
        dueWaiting("it ends where there is none", x, 48);
        x = with(6, 7, 3, 56);
        x.inject(1);
        dueKnown("7 becomes 6, 3 becomes 2, and 4 is left of 6", x, 7);
        dueWaiting("56 stays", x, 56);
    }

    /** Those of which nothing is left are removed; a block that is known already stays known. */
    private void equalWaitingPackets() {
        RelayTransfer x = with(4, 3, 3, 3, 12);
        dueWaiting("three of a kind", x, 3, 3, 3, 12);
        x.inject(2);
        dueKnown("two of them are of no use", x, 3);
        dueWaiting("12 waits on", x, 12);
        x = with(4, 7, 7, 14, 14);
        x.inject(6);
        dueWaiting("none is known yet", x, 7, 7, 14, 14, 6);
        x.inject(1);
        dueWaiting("6, 6, 14, 14, 6", x, 6, 6, 14, 14, 6);
        x.inject(2);
        dueKnown("all", x, 15);
        dueWaiting("none", x);
    }

    private void order() {
        RelayTransfer x = with(6, 48, 3, 40, 5, 24, 9);
        x.inject(1);
        dueKnown("8 through 9, and 32 and 16 through 8", x, 63);
        x = with(6, 48, 3, 40, 5, 58, 6);
        x.inject(4);
        dueKnown("4, 1, 2", x, 7);
        dueWaiting("the others stay in their order", x, 48, 40, 56);
    }

    private static RelayTransfer waitingOf(int number) {
        RelayTransfer x = new RelayTransfer();
        x.begin(12, 0);
        x.inject(7);
        for (int i = 1; i < number; i++) {
            x.inject(3 << (i - 1) % 10);
        }
        return x;
    }

    private void waitingUpToTwenty() {
        for (int number = 1; number <= 20; number++) {
            RelayTransfer x = waitingOf(number);
            due("waiting", x.told(13), number);
            due("front", x.waiting(0, 0), 7);
            due("last", x.waiting(number - 1, 0), number == 1 ? 7 : 3 << (number - 2) % 10);
            due("one beyond", x.waiting(number, 0), NONE);
            due("most", x.told(15), number);
        }
    }

    private void waitingBeyondTwenty() {
        RelayTransfer x = waitingOf(20);
        x.inject(2048 + 1024);
        due("21st: waiting", x.told(13), 20);
        due("21st: the front went", x.waiting(0, 0), 3);
        due("21st: the next one follows", x.waiting(1, 0), 6);
        due("21st: the new one is last", x.waiting(19, 0), 3072);
        due("21st: its value", x.waiting(19, 1), 107 ^ 117);
        due("21st: none beyond", x.waiting(20, 0), NONE);
        due("21st: most is of the end of an inject", x.told(15), 20);
        due("21st: kept", x.told(11), 12);
        due("21st: packet(1, 0, 0), what went is kept", x.packet(1, 0, 0), 7);
        due("21st: arrived", x.told(9), 21);
        x.inject(3);
        due("22nd, not novel: waiting", x.told(13), 20);
        due("22nd: the front went", x.waiting(0, 0), 6);
        due("22nd: the last one", x.waiting(19, 0), 3);
        for (int i = 0; i < 25; i++) {
            x.inject(4095);
        }
        due("many more", x.told(13), 20);
        due("only they are left", x.waiting(0, 0), 4095);
        due("none beyond", x.waiting(20, 2), NONE);
        due("most", x.told(15), 20);
    }

    /** Only a packet that comes to the list can put the front out. */
    private void twentyWaitAndOneBlockComes() {
        RelayTransfer x = waitingOf(20);
        x.inject(2048);
        due("a block beyond the chain: waiting", x.told(13), 20);
        due("the front stays", x.waiting(0, 0), 7);
        due("known", x.told(12), 1);
        x.inject(2048);
        due("nothing left of it: waiting", x.told(13), 20);
        due("the front stays", x.waiting(0, 0), 7);
        x.inject(2049);
        due("a chain of them", x.told(12), 12);
        due("none waits", x.told(13), 0);
        due("most stays", x.told(15), 20);
        x = waitingOf(20);
        x.inject(2048);
        x.inject(2048 + 1024 + 512);
        due("two blocks left: waiting", x.told(13), 20);
        due("the front went", x.waiting(0, 0), 3);
        due("what is left of it is last", x.waiting(19, 0), 1536);
    }

    private void greatestNumberOfWaiting() {
        RelayTransfer x = with(4, 3, 6, 12);
        due("most of three", x.told(15), 3);
        x.inject(1);
        due("none waits", x.told(13), 0);
        due("most stays", x.told(15), 3);
        x.undo();
        x.undo();
        due("most before", x.told(15), 2);
        x.keep(0);
        x.begin(4, 0);
        due("most since begin()", x.told(15), 0);
        x.inject(1);
        due("a single never waits", x.told(15), 0);
        x.inject(6);
        due("most of one", x.told(15), 1);
        x.back(0);
        due("most of the image", x.told(15), 2);
    }

    /** The third tick makes all known; what waited before was greatest at the end of the second. */
    private void greatestNumberAtTheEndOfEachTick() {
        Wishes wishes = new Wishes().source(4, 3).any(1).source(4, 6).any(1).source(4, 1).any(1).source(4, 12).any(1);
        RelayTransfer x = new RelayTransfer();
        x.begin(4, 0);
        x.set(3, wishes.seed());
        x.run(4);
        due("known", x.told(12), 4);
        due("none waits", x.told(13), 0);
        due("two waited", x.told(15), 2);
        due("time of block 0", x.block(0, 3), 3);
        due("time of block 1", x.block(1, 3), 3);
        due("time of block 2", x.block(2, 3), 3);
        due("time of block 3", x.block(3, 3), 4);
        for (int b = 0; b < 4; b++) {
            due("solved at the same time", x.block(b, 4), x.block(b, 3));
        }
    }

    private void waitingIsAsked() {
        RelayTransfer x = with(4);
        dueWaiting("none", x);
        x.inject(6);
        dueWaiting("one", x, 6);
        x.inject(15);
        dueWaiting("two", x, 6, 15);
        x.inject(2);
        dueWaiting("one block taken out", x, 9);
        dueKnown("2, and 4 through it", x, 6);
    }

    private void keptUpToAllBlocks() {
        for (int blocks = 2; blocks <= 12; blocks++) {
            RelayTransfer x = with(blocks);
            int all = (1 << blocks) - 1;
            for (int b = 0; b < blocks; b++) {
                due("rank", x.told(11), b);
                due("one beyond the kept ones", x.packet(1, b, 0), NONE);
                due("novel", x.inject((2 << b) - 1), 1);
            }
            due("rank of all", x.told(11), blocks);
            due("solved with K kept", x.told(14), blocks);
            due("the last one", x.packet(1, blocks - 1, 2), blocks);
            due("one beyond K", x.packet(1, blocks, 0), NONE);
            for (int set = 1; set <= Math.min(all, 40); set++) {
                due("novel(1, " + set + ")", x.novel(1, set), 0);
                due("inject(" + set + ")", x.inject(set), 0);
            }
            due("rank stays", x.told(11), blocks);
            due("node(1, 0)", x.node(1, 0), blocks);
            due("node(1, 1)", x.node(1, 1), blocks);
        }
    }

    private void solvedWhenSpanned() {
        RelayTransfer x = with(5, 7, 11);
        dueSolved("4 with 8 alone", x, 0);
        x.inject(15);
        dueSolved("7 and 15 give 8, 11 and 15 give 4", x, 12);
        x.inject(28);
        dueSolved("then 16", x, 28);
        x.inject(19);
        dueSolved("3 in two ways", x, 28);
        due("not novel", x.told(10), 1);
        x.inject(2);
        dueSolved("all", x, 31);
        x = with(3);
        due("inject(3)", x.inject(3), 1);
        due("inject(6)", x.inject(6), 1);
        due("inject(5), the sum of both", x.inject(5), 0);
        dueWaiting("novel or not, all wait", x, 3, 6, 5);
        dueSolved("3, 6, 5 span no block", x, 0);
        x.inject(7);
        dueSolved("with 7 all", x, 7);
    }

    private void bothWaysDiffer() {
        RelayTransfer x = with(3, 3, 6, 7);
        dueKnown("peeling knows none", x, 0);
        dueSolved("elimination solves all", x, 7);
        due("forecast(1)", x.forecast(1), 0);
        checks.holds("forecast(0)", x.forecast(0) != 0);
        x = waitingOf(20);
        x.inject(3);
        x.inject(1);
        due("peeling lost 7, and the chain knows all but one", x.told(12), 11);
        due("elimination solves as many", x.told(14), 11);
        x = with(12, 7, 1 << 11);
        for (int i = 0; i < 20; i++) {
            x.inject(48);
        }
        x.inject(1);
        x.inject(2);
        due("7 went: peeling knows 0, 1 and 11", x.told(12), 3);
        due("elimination solves 2 too", x.told(14), 4);
        due("block(2, 1)", x.block(2, 1), NONE);
        due("block(2, 3)", x.block(2, 3), NONE);
        due("block(2, 2)", x.block(2, 2), 27);
    }

    private void timesOfBlocks() {
        RelayTransfer x = new RelayTransfer();
        x.setLoss(1, 99);
        x.set(3, new Wishes().any(6).any(6).atMost(100, 98).any(6).atMost(100, 98).seed());
        x.inject(1);
        x.run(3);
        due("nothing came in three ticks", x.told(9), 1);
        x.inject(6);
        x.inject(7);
        due("7 is not novel", x.told(10), 1);
        x.inject(4);
        int[] want = {0, 3, 3, NONE};
        for (int b = 0; b < 4; b++) {
            due("block(" + b + ", 3)", x.block(b, 3), want[b]);
            due("block(" + b + ", 4)", x.block(b, 4), want[b]);
        }
        x.inject(1);
        x.inject(2);
        due("the first time stays", x.block(0, 3), 0);
        due("the first time stays", x.block(1, 4), 3);
        due("time", x.told(2), 3);
    }

    private void countsOfInject() {
        RelayTransfer x = new RelayTransfer();
        String before = x.told(2) + " " + x.told(6) + " " + x.told(7) + " " + x.told(8) + " " + x.node(1, 0);
        x.setLoss(1, 99);
        for (int set = 1; set <= 15; set++) {
            due("inject(" + set + ")", x.inject(set), Integer.bitCount(set) == 1 ? 1 : 0);
            due("arrived", x.told(9), set);
            due("not novel", x.told(10), set - x.told(11));
        }
        String after = x.told(2) + " " + x.told(6) + " " + x.told(7) + " " + x.told(8) + " " + x.node(1, 0);
        checks.holds("time, seed, made, lost and store stay: " + after, after.equals(before));
    }

    private void valuesOfZeroAndTheGreatest() {
        RelayTransfer x = new RelayTransfer();
        x.begin(3, 0);
        x.setBlock(0, 0);
        x.setBlock(1, 255);
        x.setBlock(2, 255);
        due("inject(6), a value of 0", x.inject(6), 1);
        due("its value", x.packet(1, 0, 1), 0);
        due("it waits", x.waiting(0, 1), 0);
        due("inject(1)", x.inject(1), 1);
        due("block(0, 1)", x.block(0, 1), 0);
        due("block(0, 2)", x.block(0, 2), 0);
        due("inject(3)", x.inject(3), 1);
        due("its value", x.packet(1, 2, 1), 255);
        for (int b = 1; b <= 2; b++) {
            due("block(" + b + ", 1)", x.block(b, 1), 255);
            due("block(" + b + ", 2)", x.block(b, 2), 255);
        }
    }

    private void keptAreAskedAsTheyArrived() {
        int[] sets = {1, 3, 7, 15};
        RelayTransfer x = with(4, 1, 3, 2, 7, 15);
        for (int k = 0; k < 4; k++) {
            due("packet(1, " + k + ", 0)", x.packet(1, k, 0), sets[k]);
            due("packet(1, " + k + ", 1)", x.packet(1, k, 1), Story.firstValueOf(sets[k]));
            due("packet(1, " + k + ", 2)", x.packet(1, k, 2), k + 1);
        }
        for (int what = 0; what <= 2; what++) {
            due("packet(1, 4, " + what + ")", x.packet(1, 4, what), NONE);
        }
    }

    private void novelAtTheReceiver() {
        RelayTransfer x = with(4);
        for (int set = 1; set <= 15; set++) {
            due("novel(1, " + set + ") for none", x.novel(1, set), 1);
        }
        x.inject(5);
        x.inject(9);
        x.inject(12);
        for (int set = 1; set <= 15; set++) {
            due("novel(1, " + set + ")", x.novel(1, set), set == 5 || set == 9 || set == 12 ? 0 : 1);
        }
        due("asking is no arrival", x.told(9), 3);
        due("nor a change", x.told(16), 4);
    }

    private void rankAndOverhead() {
        RelayTransfer x = with(4);
        checks.due("overhead() with the rank 0", x.overhead(), 0.0f);
        int[] sets = {3, 3, 3, 12, 15, 1, 2, 4, 8, 7};
        float[] want = {1.0f, 2.0f, 3.0f, 2.0f, 2.5f, 2.0f, 7.0f / 3.0f, 2.0f, 2.25f, 2.5f};
        for (int i = 0; i < sets.length; i++) {
            x.inject(sets[i]);
            checks.due("overhead() after " + (i + 1), x.overhead(), want[i]);
        }
        due("node(1, 0)", x.node(1, 0), 4);
        due("node(1, 1)", x.node(1, 1), 4);
        x.begin(4, 0);
        checks.due("overhead() after begin()", x.overhead(), 0.0f);
    }
}
