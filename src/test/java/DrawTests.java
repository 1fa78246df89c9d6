import java.math.BigInteger;

/** The random numbers, what the source draws, the losses, and the order of a tick. */
public final class DrawTests {
    private static final int MAX = Integer.MAX_VALUE;
    private static final BigInteger TIMES = BigInteger.valueOf(1103515245);
    private static final BigInteger PLUS = BigInteger.valueOf(12345);
    private static final BigInteger MODULUS = BigInteger.valueOf(2147483648L);

    private final Checks checks = new Checks();

    public static void main(String[] args) {
        DrawTests tests = new DrawTests();
        tests.moduloOfTheSeed();
        tests.seedsAroundTheModulo();
        tests.moduloOfTheNumber();
        tests.degreesByWeights();
        tests.degreeWithWeightsOfZero();
        tests.degreeAboveTheBlocks();
        tests.blocksAreChosen();
        tests.drawsOfATick();
        tests.lossIsLessThan();
        tests.lossesOfEachLink();
        tests.lossBeforeTheNextNodeMakes();
        tests.noPacketNoLoss();
        tests.packetsArriveAfterAllAreMade();
        tests.manyTicksAreTheSameAsOneByOne();
        tests.checks.finish("DrawTests");
    }

    private void due(String call, long got, long want) {
        checks.due(call, got, want);
    }

    private static int exact(long seed, int draws) {
        BigInteger s = BigInteger.valueOf(seed);
        for (int i = 0; i < draws; i++) {
            s = s.multiply(TIMES).add(PLUS).mod(MODULUS);
        }
        return s.intValueExact();
    }

    /** The seed from which that many draws lead to this one. */
    private static int before(long seed, int draws) {
        BigInteger s = BigInteger.valueOf(seed);
        for (int i = 0; i < draws; i++) {
            s = s.subtract(PLUS).multiply(TIMES.modInverse(MODULUS)).mod(MODULUS);
        }
        return s.intValueExact();
    }

    /** Without relays, the only draws of a tick are 2 + K of the source and its link. */
    private static RelayTransfer withSeed(int blocks, int seed) {
        RelayTransfer x = new RelayTransfer();
        x.begin(blocks, 0);
        x.set(3, seed);
        return x;
    }

    /** With the seed 1, by hand: 1103527590, then 1103515245 * 1103527590 + 12345 less 567063465 * 2147483648. */
    private void moduloOfTheSeed() {
        due("draw 1 from 1", exact(1, 1), 1103527590);
        due("draw 2 from 1", exact(1, 2), 377401575);
        RelayTransfer x = withSeed(2, 1);
        x.run(1);
        due("draws 3 and 4 from 1", x.told(6), exact(377401575, 2));
        due("draw 1 from 0", exact(0, 1), 12345);
        x = withSeed(2, 0);
        x.run(1);
        due("four draws from 0", x.told(6), exact(12345, 3));
        for (int seed : new int[] {2, 3, 65535, 65536, 1 << 20, 1 << 30, MAX - 1, MAX}) {
            for (int blocks = 2; blocks <= 12; blocks++) {
                x = withSeed(blocks, seed);
                x.run(1);
                due("a tick from " + seed, x.told(6), exact(seed, blocks + 2));
                x.run(100);
                due("many ticks from " + seed, x.told(6), exact(seed, 101 * (blocks + 2)));
            }
        }
    }

    /** The new seed is 0, 2147483647 (the greatest) or near them; a sign or a bit too few would show. */
    private void seedsAroundTheModulo() {
        for (int after : new int[] {0, 1, 65535, 65536, 1 << 30, MAX - 65536, MAX - 65535, MAX - 1, MAX}) {
            for (int draws = 1; draws <= 4; draws++) {
                int seed = before(after, draws);
                due("back and forth", exact(seed, draws), after);
                RelayTransfer x = withSeed(2, seed);
                x.run(1);
                due("the seed " + after + " in draw " + draws, x.told(6), exact(after, 4 - draws));
                due("made", x.told(7), 1);
            }
        }
        RelayTransfer x = withSeed(2, before(0, 4));
        x.run(1);
        due("the seed 0", x.told(6), 0);
        x = withSeed(2, before(MAX, 4));
        x.run(1);
        due("the greatest seed", x.told(6), MAX);
    }

    /** The number is (seed / 65536) modulo n: 65535 gives 0, 65536 gives 1, the greatest gives 32767. */
    private void moduloOfTheNumber() {
        int[][] cases = {{0, 0}, {65535, 0}, {65536, 1}, {131071, 1}, {131072, 2}, {99 * 65536 + 65535, 99},
            {100 * 65536 - 1, 99}, {100 * 65536, 0}, {101 * 65536, 1}, {MAX, 67}, {MAX - 65535, 67},
            {MAX - 65536, 66}};
        for (int[] c : cases) {
            int seed = before(c[0], 4);
            for (int loss = Math.max(c[1] - 1, 0); loss <= Math.min(c[1] + 2, 99); loss++) {
                RelayTransfer x = withSeed(2, seed);
                x.setLoss(0, loss);
                x.run(1);
                due("seed " + c[0] + " is number " + c[1] + ", loss " + loss, x.told(8), c[1] < loss ? 1 : 0);
                due("arrived", x.told(9), c[1] < loss ? 0 : 1);
            }
        }
    }

    private static int degreeOfFirst(int blocks, int seed, int[] weights) {
        RelayTransfer x = withSeed(blocks, seed);
        for (int d = 1; d <= 6; d++) {
            x.setWeight(d, 9);
        }
        for (int d = 1; d <= 6; d++) {
            x.setWeight(d, weights[d - 1]);
        }
        x.run(1);
        return x.packet(1, 0, 2);
    }

    private static int seedForNumber(int n, int number) {
        return new Wishes().number(n, number).seed();
    }

    /** With 1, 5, 2, 1, 0, 0 the sums are 1, 6, 8, 9: the degree is the least with a greater sum. */
    private void degreesByWeights() {
        int[] want = {1, 2, 2, 2, 2, 2, 3, 3, 4};
        for (int number = 0; number < 9; number++) {
            int seed = seedForNumber(9, number);
            RelayTransfer x = withSeed(12, seed);
            x.run(1);
            due("first weights, number " + number, x.packet(1, 0, 2), want[number]);
        }
        int[] all = {9, 9, 9, 9, 9, 9};
        for (int number = 0; number < 54; number++) {
            due("all 9, number " + number, degreeOfFirst(12, seedForNumber(54, number), all), number / 9 + 1);
        }
        int[] ones = {1, 1, 1, 1, 1, 1};
        for (int number = 0; number < 6; number++) {
            due("all 1, number " + number, degreeOfFirst(12, seedForNumber(6, number), ones), number + 1);
        }
    }

    private void degreeWithWeightsOfZero() {
        for (int d = 1; d <= 6; d++) {
            for (int weight = 1; weight <= 9; weight += 8) {
                int[] weights = new int[6];
                weights[d - 1] = weight;
                for (int number = 0; number < weight; number++) {
                    due("only degree " + d, degreeOfFirst(12, seedForNumber(weight, number), weights), d);
                }
            }
        }
        int[] gap = {0, 2, 0, 0, 3, 0};
        int[] want = {2, 2, 5, 5, 5};
        for (int number = 0; number < 5; number++) {
            due("0, 2, 0, 0, 3, 0", degreeOfFirst(12, seedForNumber(5, number), gap), want[number]);
        }
    }

    /** If the degree is greater than K, it is K, and the packet has all blocks. */
    private void degreeAboveTheBlocks() {
        for (int blocks = 2; blocks <= 12; blocks++) {
            for (int d = 1; d <= 6; d++) {
                int[] weights = new int[6];
                weights[d - 1] = 1;
                for (int seed = 0; seed < 20; seed++) {
                    due("degree " + d + " of " + blocks, degreeOfFirst(blocks, seed, weights), Math.min(d, blocks));
                }
            }
        }
        RelayTransfer x = withSeed(3, seedForNumber(9, 8));
        x.run(1);
        due("all three blocks", x.packet(1, 0, 0), 7);
        due("their value", x.packet(1, 0, 1), 7 ^ 17 ^ 27);
    }

    /** Each set can be drawn, by the draws that the document names; numbers by hand for one of them. */
    private void blocksAreChosen() {
        // A degree of 2, and then 0 of 4 is less than 2, 1 of 3 is not less than 1, 0 of 2 is: blocks 0 and 2.
        int seed = new Wishes().number(9, 1).number(4, 0).number(3, 1).number(2, 0).seed();
        RelayTransfer x = withSeed(4, seed);
        x.run(1);
        due("blocks 0 and 2", x.packet(1, 0, 0), 5);
        due("the last draws are done too", x.told(6), exact(seed, 6));
        // A degree of 2, and 2 of 4 is not less than 2, 1 of 3 is: block 1; 1 of 2 is not less than 1: block 3.
        seed = new Wishes().number(9, 5).number(4, 2).number(3, 1).number(2, 1).seed();
        x = withSeed(4, seed);
        x.run(1);
        due("blocks 1 and 3", x.packet(1, 0, 0), 10);
        due("their value", x.packet(1, 0, 1), 17 ^ 37);
        for (int blocks = 2; blocks <= 5; blocks++) {
            for (int set = 1; set < 1 << blocks; set++) {
                if (Integer.bitCount(set) <= 4) {
                    x = withSeed(blocks, new Wishes().source(blocks, set).seed());
                    x.run(1);
                    due("the source sends", x.packet(1, 0, 0), set);
                }
            }
        }
    }

    /** 1 + K of the source and 1 of its link; a relay with an empty store draws nothing, another 1 for its link. */
    private void drawsOfATick() {
        for (int blocks = 2; blocks <= 12; blocks++) {
            for (int relays = 0; relays <= 3; relays++) {
                for (int style = 0; style <= 1; style++) {
                    RelayTransfer x = new RelayTransfer();
                    x.begin(blocks, relays);
                    x.set(2, style);
                    x.run(1);
                    due("empty stores draw nothing", x.told(6), exact(1, blocks + 2));
                    x.run(1);
                    int relay = relays == 0 ? 0 : 1 + style;
                    due("a store of one packet", x.told(6), exact(1, 2 * (blocks + 2) + relay));
                }
            }
        }
    }

    private static RelayTransfer oneTick(int loss, int number) {
        RelayTransfer x = withSeed(4, new Wishes().any(5).number(100, number).seed());
        x.setLoss(0, loss);
        x.run(1);
        return x;
    }

    private void lossIsLessThan() {
        int[][] cases = {{0, 0, 0}, {1, 0, 1}, {1, 1, 0}, {50, 49, 1}, {50, 50, 0}, {50, 51, 0}, {99, 97, 1},
            {99, 98, 1}, {99, 99, 0}, {0, 99, 0}, {99, 0, 1}};
        for (int[] c : cases) {
            RelayTransfer x = oneTick(c[0], c[1]);
            String name = "loss " + c[0] + ", number " + c[1] + ": ";
            due(name + "lost", x.told(8), c[2]);
            due(name + "arrived", x.told(9), 1 - c[2]);
            due(name + "kept", x.told(11), 1 - c[2]);
            due(name + "made", x.told(7), 1);
            due(name + "time", x.told(2), 1);
        }
    }

    /** A loss of 99 at one link after another: nothing comes beyond it. */
    private void lossesOfEachLink() {
        for (int link = 0; link <= 3; link++) {
            Wishes wishes = new Wishes();
            for (int tick = 1; tick <= 4; tick++) {
                wishes.any(5);
                for (int l = 0; l < Math.min(tick, link + 1); l++) {
                    wishes.atMost(100, l == link ? 98 : 99);
                }
            }
            RelayTransfer x = new RelayTransfer();
            x.begin(4, 3);
            x.set(3, wishes.seed());
            x.setLoss(link, 99);
            x.run(4);
            for (int node = 1; node <= 4; node++) {
                int want = node > link ? 0 : Math.min(2, 5 - node);
                due("loss of link " + link + ": packets at " + node, x.node(node, 0), want);
            }
            due("lost on links", x.told(8), 4 - link);
            due("arrived", x.told(9), 0);
            due("made by the source alone", x.told(7), 4);
        }
    }

    /** In the second tick the link of the source draws before the relay draws for its packets. */
    private void lossBeforeTheNextNodeMakes() {
        Wishes wishes = new Wishes().source(4, 3).atLeast(100, 50).source(4, 9).number(100, 49).number(2, 1)
            .atLeast(100, 50);
        RelayTransfer x = new RelayTransfer();
        x.set(3, wishes.seed());
        x.set(2, 1);
        x.setLoss(0, 50);
        x.setLoss(1, 50);
        x.run(2);
        due("lost", x.told(8), 1);
        due("the second one did not come to the store", x.node(1, 0), 1);
        due("the first one came to the receiver", x.packet(2, 0, 0), 3);
        wishes = new Wishes().source(4, 3).atLeast(100, 50).source(4, 9).number(100, 50).number(2, 1)
            .number(100, 49);
        x = new RelayTransfer();
        x.set(3, wishes.seed());
        x.set(2, 1);
        x.setLoss(0, 50);
        x.setLoss(1, 50);
        x.run(2);
        due("lost", x.told(8), 1);
        due("the second one came to the store", x.packet(1, 1, 0), 9);
        due("nothing came to the receiver", x.told(9), 0);
    }

    /** 3 and 3 in the store, both chosen: nothing comes of it, no number is drawn for the link, nothing is lost. */
    private void noPacketNoLoss() {
        Wishes wishes = new Wishes().source(4, 3).any(1).source(4, 3).any(1).number(2, 0).number(100, 99)
            .source(4, 9).any(1).number(2, 1).number(2, 1);
        int seed = wishes.seed();
        RelayTransfer x = new RelayTransfer();
        x.set(3, seed);
        x.set(2, 1);
        x.setLoss(1, 99);
        x.run(2);
        due("arrived in the second tick", x.told(9), 1);
        x.run(1);
        due("draws of three ticks", x.told(6), exact(seed, 6 + 8 + 8));
        due("nothing arrived", x.told(9), 1);
        due("nothing was lost", x.told(8), 0);
        due("the list stayed, the front went for 9", x.packet(1, 0, 0), 3);
        due("9 came to the end", x.packet(1, 1, 0), 9);
        due("made counts the source alone", x.told(7), 3);
    }

    /** A packet goes over one link in a tick, so the receiver gets the first one in the tick R + 1. */
    private void packetsArriveAfterAllAreMade() {
        for (int relays = 0; relays <= 3; relays++) {
            RelayTransfer x = new RelayTransfer();
            x.begin(4, relays);
            for (int tick = 1; tick <= 6; tick++) {
                x.run(1);
                due("time", x.told(2), tick);
                due("made", x.told(7), tick);
                due("arrived with R = " + relays + ", tick " + tick, x.told(9), Math.max(0, tick - relays));
                for (int node = 1; node <= relays; node++) {
                    due("store of " + node, x.node(node, 0), Math.max(0, Math.min(2, tick - node + 1)));
                }
            }
        }
    }

    private void manyTicksAreTheSameAsOneByOne() {
        for (int n : new int[] {1, 2, 50, 100}) {
            RelayTransfer many = new RelayTransfer(), single = new RelayTransfer();
            many.setLoss(0, 30);
            single.setLoss(0, 30);
            int rank = many.run(n);
            for (int i = 1; i < n; i++) {
                single.run(1);
            }
            due("rank after " + n, rank, single.run(1));
            due("run answers the rank", rank, many.told(11));
            checks.holds(n + " ticks at once", Story.present(many).equals(Story.present(single)));
            due("one change", many.told(16), 2);
            due("many changes", single.told(16), Math.min(8, n + 1));
        }
    }
}
