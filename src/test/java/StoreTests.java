/**
 * What a relay makes of its store and what comes into it: by each policy and style, with stores that
 * are empty, not full, full, and one beyond. With the style 0 the front goes to the end before the
 * new packet arrives, so a store of 3, 5 is 5, 3 then.
 */
public final class StoreTests {
    private static final int[] WEIGHTS = {2, 3, 1, 1, 0, 0};

    private final Checks checks = new Checks();

    public static void main(String[] args) {
        StoreTests tests = new StoreTests();
        tests.firstPolicyAndRoom();
        tests.oldestGoes();
        tests.newOneIsDropped();
        tests.onlyNovelOnesCome();
        tests.mostInCommonGoes();
        tests.novelInAFullStoreOfFour();
        tests.combinedWithTheFront();
        tests.combinedToNothing();
        tests.combinedToNothingInARoomOfOne();
        tests.frontGoesToTheEnd();
        tests.frontGoesToTheEndThoughLost();
        tests.chosenOnesAreCombined();
        tests.whateverIsLeftIsSent();
        tests.roomBecomesSmaller();
        tests.roomBecomesSmallerEverywhere();
        tests.roomBecomesGreater();
        tests.policyAndStyleLeaveTheStore();
        tests.askedPacketsOfAStore();
        tests.rankAndNovelOfAStore();
        tests.laterRelays();
        tests.checks.finish("StoreTests");
    }

    private void due(String call, long got, long want) {
        checks.due(call, got, want);
    }

    private void dueStore(String when, RelayTransfer x, int node, String want) {
        String got = Story.list(x, node, 0).replaceAll("[ (]*(.*)\\)", "$1");
        checks.holds(when + ": store of node " + node + " is " + got + ", due is " + want, got.equals(want));
    }

    /** One relay with the style 0, and the source sends these sets, one in each tick; nothing is lost. */
    private static RelayTransfer sending(int blocks, int... sets) {
        Wishes wishes = new Wishes().weights(WEIGHTS);
        for (int i = 0; i < sets.length; i++) {
            wishes.source(blocks, sets[i]).any(i == 0 ? 1 : 2);
        }
        return prepared(blocks, wishes);
    }

    private static RelayTransfer prepared(int blocks, Wishes wishes) {
        RelayTransfer x = new RelayTransfer();
        x.begin(blocks, 1);
        for (int degree = 1; degree <= WEIGHTS.length; degree++) {
            x.setWeight(degree, WEIGHTS[degree - 1]);
        }
        x.set(3, wishes.seed());
        return x;
    }

    private void firstPolicyAndRoom() {
        RelayTransfer x = sending(4, 3, 5, 9);
        dueStore("empty at first", x, 1, "");
        x.run(1);
        dueStore("not full", x, 1, "3");
        x.run(1);
        dueStore("full with two", x, 1, "3 5");
        x.run(1);
        dueStore("one beyond, policy 0", x, 1, "3 9");
        due("value of the new one", x.packet(1, 1, 1), 7 ^ 37);
    }

    /** After each tick, the store by the room C and the policy, where 3, 5, 9, 6, 12 come. */
    private void dueAfterEach(int policy, String[][] want) {
        for (int room = 1; room <= 4; room++) {
            RelayTransfer x = sending(4, 3, 5, 9, 6, 12);
            x.set(0, room);
            x.set(1, policy);
            for (int tick = 0; tick < want[room - 1].length; tick++) {
                x.run(1);
                dueStore("policy " + policy + ", room " + room + ", tick " + (tick + 1), x, 1, want[room - 1][tick]);
            }
        }
    }

    private void oldestGoes() {
        dueAfterEach(0, new String[][] {
            {"3", "5", "9", "6", "12"},
            {"3", "3 5", "3 9", "3 6", "3 12"},
            {"3", "3 5", "5 3 9", "9 5 6", "6 9 12"},
            {"3", "3 5", "5 3 9", "3 9 5 6", "5 6 3 12"}});
    }

    private void newOneIsDropped() {
        dueAfterEach(1, new String[][] {
            {"3", "3", "3", "3", "3"},
            {"3", "3 5", "5 3", "3 5", "5 3"},
            {"3", "3 5", "5 3 9", "3 9 5", "9 5 3"},
            {"3", "3 5", "5 3 9", "3 9 5 6", "9 5 6 3"}});
    }

    /** 6 is 3 with 5, and 12 is 5 with 9. */
    private void onlyNovelOnesCome() {
        dueAfterEach(2, new String[][] {
            {"3", "5", "9", "6", "12"},
            {"3", "3 5", "3 9", "9 6"},
            {"3", "3 5", "5 3 9", "3 9 5", "9 5 3"},
            {"3", "3 5", "5 3 9", "3 9 5", "9 5 3"}});
        RelayTransfer x = sending(4, 3, 3, 5, 6, 1);
        x.set(0, 4);
        x.set(1, 2);
        x.run(2);
        dueStore("not full, known already", x, 1, "3");
        x.run(1);
        dueStore("not full, novel", x, 1, "3 5");
        x.run(1);
        dueStore("not full, the sum of two", x, 1, "5 3");
        x.run(1);
        dueStore("not full, novel again", x, 1, "3 5 1");
        x = sending(4, 3, 5, 6, 3, 5);
        x.set(1, 2);
        x.run(5);
        dueStore("full, not novel: dropped", x, 1, "5 3");
    }

    private void mostInCommonGoes() {
        int[][] sets = {{7, 8, 3}, {8, 7, 3}, {3, 5, 1}, {5, 3, 1}, {1, 2, 4}, {2, 1, 12}, {14, 3, 1}, {3, 14, 1},
            {3, 12, 7}, {12, 3, 7}, {1, 15, 3}, {15, 1, 3}};
        String[] want = {"8 3", "8 3", "3 1", "5 1", "1 4", "2 12", "14 1", "14 1", "12 7", "12 7", "1 3", "1 3"};
        for (int i = 0; i < sets.length; i++) {
            RelayTransfer x = sending(4, sets[i]);
            x.set(1, 2);
            x.run(3);
            String name = sets[i][1] + ", " + sets[i][0] + " and the new " + sets[i][2];
            dueStore(name, x, 1, want[i]);
        }
    }

    private void novelInAFullStoreOfFour() {
        RelayTransfer x = sending(5, 3, 5, 9, 17, 16);
        x.set(0, 4);
        x.set(1, 2);
        x.run(4);
        dueStore("full with four", x, 1, "3 9 5 17");
        due("rank", x.node(1, 1), 4);
        x.run(1);
        dueStore("17 goes, which has 16", x, 1, "9 5 3 16");
    }

    private void combinedWithTheFront() {
        dueAfterEach(3, new String[][] {
            {"3", "6", "15", "9", "5"},
            {"3", "3 5", "3 12"},
            {"3", "3 5", "5 3 9", "9 5 5", "5 9 9"},
            {"3", "3 5", "5 3 9", "3 9 5 6", "5 6 3 5"}});
        RelayTransfer x = sending(4, 3, 5, 9);
        x.set(1, 3);
        x.run(3);
        due("value of 5 with 9", x.packet(1, 1, 1), 7 ^ 27 ^ 7 ^ 37);
        x = sending(4, 3, 3, 9);
        x.set(1, 3);
        x.run(2);
        dueStore("not full, nothing is combined", x, 1, "3 3");
    }

    private void combinedToNothing() {
        RelayTransfer x = sending(4, 3, 5, 5, 9, 6);
        x.set(1, 3);
        x.run(3);
        dueStore("5 and 5", x, 1, "3");
        x.run(1);
        dueStore("there is room again", x, 1, "3 9");
        x.run(1);
        dueStore("full again", x, 1, "3 15");
    }

    private void combinedToNothingInARoomOfOne() {
        Wishes wishes = new Wishes().weights(WEIGHTS).source(4, 6).any(1).source(4, 6).any(2).source(4, 10).any(1);
        int seed = wishes.seed();
        RelayTransfer x = prepared(4, wishes);
        x.set(0, 1);
        x.set(1, 3);
        x.run(2);
        dueStore("6 and 6", x, 1, "");
        due("packets", x.node(1, 0), 0);
        due("their rank", x.node(1, 1), 0);
        due("the first one arrived", x.told(9), 1);
        x.run(1);
        dueStore("into the empty store", x, 1, "10");
        due("the empty store made none", x.told(9), 1);
        due("and drew nothing", x.told(6), Wishes.seedAfter(seed, 6 + 7 + 6));
    }

    private void frontGoesToTheEnd() {
        RelayTransfer x = sending(4, 3, 5, 9, 6, 12);
        x.set(0, 3);
        x.set(1, 1);
        x.run(5);
        dueStore("sent from the front, in turn", x, 2, "3 5");
        due("arrived", x.told(9), 4);
        due("3, 3, 5, 3", x.told(10), 2);
        dueStore("in their order still", x, 1, "9 5 3");
        x.run(1);
        dueStore("then 9", x, 2, "3 5 9");
        dueStore("9 goes to the end", x, 1, "5 3 9");
    }

    private void frontGoesToTheEndThoughLost() {
        Wishes wishes = new Wishes().weights(WEIGHTS).source(4, 3).any(1).source(4, 5).any(1).atMost(100, 98)
            .source(4, 9).any(1).atMost(100, 98);
        RelayTransfer x = prepared(4, wishes);
        x.set(1, 1);
        x.setLoss(1, 99);
        x.run(3);
        due("lost", x.told(8), 2);
        due("arrived", x.told(9), 0);
        dueStore("the front went to the end", x, 1, "5 3");
    }

    /** The two packets of the store are 3 and 5; the draws tell which are combined. */
    private void chosenOnesAreCombined() {
        int[][] draws = {{0, 0}, {1, 0}, {0, 1}, {1, 1}};
        int[] want = {3, 3, 5, 6};
        int[] value = {7 ^ 17, 7 ^ 17, 7 ^ 27, 17 ^ 27};
        for (int i = 0; i < draws.length; i++) {
            Wishes wishes = new Wishes().weights(WEIGHTS).source(4, 3).any(1).source(4, 5).any(2)
                .source(4, 8).any(1).number(2, draws[i][0]).number(2, draws[i][1]).any(1);
            int seed = wishes.seed();
            RelayTransfer x = prepared(4, wishes);
            x.run(2);
            due("without a style: draws", x.told(6), Wishes.seedAfter(seed, 13));
            x.set(2, 1);
            x.run(1);
            String name = "draws " + draws[i][0] + " and " + draws[i][1] + ": ";
            due(name + "arrived", x.told(9), 2);
            due(name + "novel", x.told(11), want[i] == 3 ? 1 : 2);
            due(name + "set", x.packet(2, x.told(11) - 1, 0), want[i]);
            due(name + "value", x.packet(2, x.told(11) - 1, 1), value[i]);
            due(name + "all drawn", x.told(6), Wishes.seedAfter(seed, 13 + 9));
            dueStore(name + "the list stays, the front goes for 8", x, 1, "5 8");
        }
    }

    /** Only of the empty set nothing comes: each single block does, and all blocks do. */
    private void whateverIsLeftIsSent() {
        int[][] sets = {{3, 2, 1}, {3, 1, 2}, {7, 3, 4}, {12, 4, 8}, {12, 3, 15}, {14, 15, 1}, {8, 9, 1}};
        for (int[] s : sets) {
            Wishes wishes = new Wishes().weights(WEIGHTS).source(4, s[0]).any(1).source(4, s[1]).any(1).number(2, 1)
                .any(1).any(6).number(2, 1).number(2, 1).any(1);
            RelayTransfer x = prepared(4, wishes);
            x.set(2, 1);
            x.run(3);
            dueStore(s[0] + " alone, then with " + s[1], x, 2, s[0] + " " + s[2]);
            due("value", x.packet(2, 1, 1), Story.firstValueOf(s[2]));
            due("each tick but the first brought one", x.told(9), 2);
        }
        for (int block = 0; block < 4; block++) {
            for (int draw = 0; draw <= 1; draw++) {
                Wishes wishes = new Wishes().weights(WEIGHTS).source(4, 1 << block).any(1).any(6).number(2, draw);
                RelayTransfer x = prepared(4, wishes);
                x.set(2, 1);
                x.run(2);
                dueStore("a store of one packet, draw " + draw, x, 2, "" + (1 << block));
            }
        }
    }

    private static final int[] FIVE = {3, 5, 9, 6, 12};

    private void roomBecomesSmaller() {
        String[] want = {"6", "5 6", "9 5 6", "3 9 5 6"};
        for (int room = 1; room <= 4; room++) {
            RelayTransfer x = sending(4, FIVE);
            x.set(0, 4);
            x.run(4);
            dueStore("full with four", x, 1, "3 9 5 6");
            due("set(0, " + room + ")", x.set(0, room), 4);
            dueStore("room " + room, x, 1, want[room - 1]);
            due("packet after the last", x.packet(1, room, 0), -9);
            due("set(0, 4)", x.set(0, 4), room);
            dueStore("none comes back", x, 1, want[room - 1]);
        }
        for (int room = 1; room <= 4; room++) {
            RelayTransfer x = sending(4, FIVE);
            x.set(0, 4);
            x.run(1);
            x.set(0, room);
            dueStore("one packet fits in a room of " + room, x, 1, "3");
        }
        RelayTransfer x = new RelayTransfer();
        x.set(0, 1);
        dueStore("an empty store stays empty", x, 1, "");
        due("room", x.told(3), 1);
    }

    private void roomBecomesSmallerEverywhere() {
        RelayTransfer x = new RelayTransfer();
        x.begin(12, 3);
        x.set(0, 4);
        x.run(9);
        int[] last = new int[4];
        for (int node = 1; node <= 3; node++) {
            due("full", x.node(node, 0), 4);
            last[node] = x.packet(node, 3, 0);
        }
        int kept = x.told(11);
        x.set(0, 1);
        for (int node = 1; node <= 3; node++) {
            due("one is left at " + node, x.node(node, 0), 1);
            due("the last one at " + node, x.packet(node, 0, 0), last[node]);
        }
        due("the receiver has no room to lose", x.told(11), kept);
        x.undo();
        for (int node = 1; node <= 3; node++) {
            due("undone", x.node(node, 0), 4);
        }
    }

    private void roomBecomesGreater() {
        RelayTransfer x = sending(4, FIVE);
        x.set(0, 1);
        x.run(2);
        dueStore("full with one", x, 1, "5");
        x.set(0, 2);
        x.run(1);
        dueStore("not full then", x, 1, "5 9");
        x.run(1);
        dueStore("full then", x, 1, "5 6");
    }

    private void policyAndStyleLeaveTheStore() {
        RelayTransfer x = sending(4, 3, 3, 5);
        x.run(2);
        for (int policy = 0; policy <= 3; policy++) {
            x.set(1, policy);
            dueStore("policy " + policy, x, 1, "3 3");
        }
        x.set(2, 1);
        dueStore("style 1", x, 1, "3 3");
        x.set(3, 7);
        dueStore("another seed", x, 1, "3 3");
        due("rank of two of a kind", x.node(1, 1), 1);
    }

    private void askedPacketsOfAStore() {
        RelayTransfer x = sending(4, 3, 14, 9);
        int[][] want = {{3, 7 ^ 17, 2}, {14, 17 ^ 27 ^ 37, 3}};
        due("packet(1, 0, 0) of an empty store", x.packet(1, 0, 0), -9);
        x.run(1);
        due("packet(1, 0, 0)", x.packet(1, 0, 0), 3);
        due("packet(1, 1, 0), one beyond", x.packet(1, 1, 0), -9);
        x.run(1);
        for (int k = 0; k < 2; k++) {
            for (int what = 0; what <= 2; what++) {
                due("packet(1, " + k + ", " + what + ")", x.packet(1, k, what), want[k][what]);
            }
        }
        for (int what = 0; what <= 2; what++) {
            due("packet(1, 2, " + what + "), one beyond", x.packet(1, 2, what), -9);
            due("packet(1, 3, " + what + ")", x.packet(1, 3, what), -9);
            due("packet(2, 1, " + what + ") of the receiver", x.packet(2, 1, what), -9);
        }
        due("packet(2, 0, 0) of the receiver", x.packet(2, 0, 0), 3);
    }

    private void rankAndNovelOfAStore() {
        RelayTransfer x = sending(4, 3, 5, 6, 8);
        x.set(0, 4);
        int[] ranks = {1, 2, 2, 3};
        for (int tick = 1; tick <= 4; tick++) {
            x.run(1);
            due("packets", x.node(1, 0), tick);
            due("rank after " + tick, x.node(1, 1), ranks[tick - 1]);
        }
        x.undo();
        for (int set = 1; set <= 15; set++) {
            due("novel(1, " + set + ")", x.novel(1, set), set == 3 || set == 5 || set == 6 ? 0 : 1);
        }
        for (int set = 1; set <= 15; set++) {
            due("novel(2, " + set + ")", x.novel(2, set), set == 3 ? 0 : 1);
        }
        x.run(1);
        due("novel(1, 8)", x.novel(1, 8), 0);
        due("novel(1, 11)", x.novel(1, 11), 0);
        due("novel(1, 1)", x.novel(1, 1), 1);
    }

    /** Two relays, the policy 2: what is not novel at the second one is dropped there. */
    private void laterRelays() {
        Wishes wishes = new Wishes().weights(WEIGHTS).source(4, 3).any(1).source(4, 5).any(2).source(4, 9).any(3);
        RelayTransfer x = prepared(4, wishes);
        int seed = x.told(6);
        x.begin(4, 2);
        x.set(0, 4);
        x.set(1, 2);
        x.run(2);
        dueStore("relay 1", x, 1, "3 5");
        dueStore("relay 2", x, 2, "3");
        x.run(1);
        dueStore("relay 1", x, 1, "5 3 9");
        dueStore("relay 2, 3 came again", x, 2, "3");
        dueStore("the receiver", x, 3, "3");
        due("draws", x.told(6), Wishes.seedAfter(seed, 6 + 7 + 8));
    }
}
