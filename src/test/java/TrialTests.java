/** forecast, bestPolicy and bearable: 0, the last tick that counts, one beyond, and never. */
public final class TrialTests {
    private static final int NONE = -9;
    private static final int[] FIRST = {1, 5, 2, 1, 0, 0};
    private static final int[] FEW_SINGLES = {1, 9, 9, 9, 9, 9};

    private final Checks checks = new Checks();

    public static void main(String[] args) {
        TrialTests tests = new TrialTests();
        tests.allAreKnownNow();
        tests.forecastAtThreeHundred();
        tests.forecastOfEitherWay();
        tests.forecastIsWhatComes();
        tests.neverKnown();
        tests.bestPolicyAtThreeHundred();
        tests.bestPolicyIsTheLowestOfTheFewest();
        tests.bestPolicyIsOfElimination();
        tests.bearableAtItsTicks();
        tests.bearableAtZeroTicks();
        tests.bearableIsTheGreatest();
        tests.bearableWhateverIsSet();
        tests.trialsLeaveEverything();
        tests.checks.finish("TrialTests");
    }

    private void due(String call, long got, long want) {
        checks.due(call, got, want);
    }

    /** The ticks until two blocks are known that come straight from the source; told apart from the class. */
    private static int ticksOfTwoBlocks(int seed, int loss, int[] weights, int limit) {
        int sum = 0;
        for (int w : weights) {
            sum += w;
        }
        long s = seed;
        int first = 0;
        for (int tick = 1; tick <= limit; tick++) {
            s = Wishes.next(s);
            int degree = Wishes.number(s, sum) < weights[0] ? 1 : 2;
            s = Wishes.next(s);
            int set = degree == 2 ? 3 : Wishes.number(s, 2) == 0 ? 1 : 2;
            s = Wishes.next(Wishes.next(s));
            if (Wishes.number(s, 100) >= loss) {
                if (first != 0 && first != set) {
                    return tick;
                }
                first = set;
            }
        }
        return NONE;
    }

    private static int seedForTicks(int ticks, int loss, int[] weights) {
        for (int seed = 0; seed < 1_000_000; seed++) {
            if (ticksOfTwoBlocks(seed, loss, weights, ticks + 1) == ticks) {
                return seed;
            }
        }
        throw new AssertionError("no seed for " + ticks);
    }

    private static RelayTransfer twoBlocks(int seed, int loss, int[] weights) {
        RelayTransfer x = new RelayTransfer();
        x.begin(2, 0);
        for (int degree = 1; degree <= 6; degree++) {
            x.setWeight(degree, weights[degree - 1]);
        }
        x.setLoss(0, loss);
        x.set(3, seed);
        return x;
    }

    private void allAreKnownNow() {
        RelayTransfer x = new RelayTransfer();
        int[] sets = {1, 2, 4};
        for (int set : sets) {
            x.inject(set);
            checks.holds("forecast(0), one is missing", x.forecast(0) != 0);
            checks.holds("forecast(1), one is missing", x.forecast(1) != 0);
        }
        x.inject(15);
        due("forecast(0)", x.forecast(0), 0);
        due("forecast(1)", x.forecast(1), 0);
        x.set(1, 3);
        due("bestPolicy()", x.bestPolicy(), 0);
        for (int ticks : new int[] {0, 1, 99, 100}) {
            due("bearable(0, " + ticks + ")", x.bearable(0, ticks), 99);
            due("bearable(1, " + ticks + ")", x.bearable(1, ticks), 99);
        }
    }

    private void forecastAtThreeHundred() {
        for (int ticks : new int[] {2, 3, 100, 101, 200, 298, 299, 300, 301, 302}) {
            RelayTransfer x = twoBlocks(seedForTicks(ticks, 99, FIRST), 99, FIRST);
            int want = ticks <= 300 ? ticks : NONE;
            due("forecast(0) of " + ticks, x.forecast(0), want);
            due("forecast(1) of " + ticks, x.forecast(1), want);
            x.run(1);
            due("forecast(1) of " + ticks + ", a tick later", x.forecast(1), ticks <= 301 ? ticks - 1 : NONE);
        }
        RelayTransfer x = twoBlocks(seedForTicks(400, 99, FIRST), 99, FIRST);
        x.run(99);
        due("301 ticks are left", x.forecast(1), NONE);
        x.run(1);
        due("300 ticks are left", x.forecast(1), 300);
        x.run(100);
        x.run(100);
        x.run(99);
        due("1 tick is left", x.forecast(1), 1);
        x.run(1);
        due("none is left", x.forecast(1), 0);
        due("none is left by peeling", x.forecast(0), 0);
    }

    private void forecastOfEitherWay() {
        RelayTransfer x = new RelayTransfer();
        x.begin(3, 0);
        x.inject(3);
        x.inject(6);
        x.inject(7);
        x.set(3, new Wishes().source(3, 6).any(1).source(3, 5).any(1).source(3, 2).any(1).seed());
        due("forecast(1), solved", x.forecast(1), 0);
        due("forecast(0), by the 2 of the third tick", x.forecast(0), 3);
        x.begin(3, 0);
        x.inject(3);
        x.set(3, new Wishes().source(3, 7).any(1).source(3, 6).any(1).source(3, 1).any(1).seed());
        due("forecast(1), by 3, 7, 6", x.forecast(1), 2);
        due("forecast(0), by the 1", x.forecast(0), 3);
        x.run(2);
        due("known by peeling", x.told(12), 0);
        due("solved", x.told(14), 3);
    }

    private void forecastIsWhatComes() {
        for (int seed = 1; seed <= 60; seed++) {
            for (int how = 0; how <= 1; how++) {
                RelayTransfer x = new RelayTransfer();
                x.begin(2 + seed % 4, seed % 3);
                x.setLoss(0, seed % 50);
                x.set(1, seed % 4);
                x.set(2, seed / 4 % 2);
                x.set(3, seed);
                int ticks = x.forecast(how);
                int done = 0;
                while (x.told(how == 0 ? 12 : 14) < x.told(0) && done < 120) {
                    x.run(1);
                    done++;
                }
                due("ticks of seed " + seed, done, ticks == NONE || ticks > 120 ? 120 : ticks);
                if (ticks != NONE && ticks <= 120) {
                    due("forecast then", x.forecast(how), 0);
                }
            }
        }
    }

    private void neverKnown() {
        RelayTransfer x = twoBlocks(1, 0, new int[] {0, 0, 0, 0, 0, 9});
        due("forecast(0) of nothing but 3", x.forecast(0), NONE);
        due("forecast(1) of nothing but 3", x.forecast(1), NONE);
        due("bestPolicy() of nothing but 3", x.bestPolicy(), NONE);
        due("bearable(0, 100) of nothing but 3", x.bearable(0, 100), NONE);
        x.inject(2);
        due("forecast(0) with 2", x.forecast(0), 1);
        due("bestPolicy() with 2", x.bestPolicy(), 0);
        due("bearable(0, 0) with 2", x.bearable(0, 0), NONE);
        x.run(1);
        due("forecast(0) with both", x.forecast(0), 0);
        due("bearable(0, 0) with both", x.bearable(0, 0), 99);
    }

    /** Without relays the policies are all the same. */
    private void bestPolicyAtThreeHundred() {
        for (int ticks : new int[] {2, 299, 300, 301, 302}) {
            RelayTransfer x = twoBlocks(seedForTicks(ticks, 99, FIRST), 99, FIRST);
            x.set(1, 2);
            due("bestPolicy() of " + ticks, x.bestPolicy(), ticks <= 300 ? 0 : NONE);
            due("the policy stays", x.told(4), 2);
        }
    }

    private void bestPolicyIsTheLowestOfTheFewest() {
        int[] met = new int[5];
        boolean tied = false;
        for (int seed = 1; seed <= 400; seed++) {
            RelayTransfer x = new RelayTransfer();
            x.begin(3 + seed % 4, 1 + seed % 2);
            x.set(0, 1 + seed % 3);
            x.set(2, seed / 3 % 2);
            x.setLoss(0, seed % 10 == 0 ? 99 : 0);
            x.setLoss(1, seed % 90);
            x.set(3, seed);
            int best = NONE, fewest = 301, equal = 0;
            for (int policy = 0; policy <= 3; policy++) {
                x.set(1, policy);
                int ticks = x.forecast(1);
                equal = ticks == fewest ? equal + 1 : equal;
                if (ticks != NONE && ticks < fewest) {
                    best = policy;
                    fewest = ticks;
                    equal = 1;
                }
            }
            tied |= equal > 1 && best > 0;
            met[best == NONE ? 4 : best]++;
            for (int policy = 0; policy <= 3; policy++) {
                x.set(1, policy);
                due("bestPolicy() of seed " + seed + ", policy " + policy, x.bestPolicy(), best);
            }
        }
        for (int count : met) {
            checks.holds("each policy is the best one once, and once none is", count > 0);
        }
        checks.holds("once two were equal and neither is 0", tied);
    }

    private void bestPolicyIsOfElimination() {
        RelayTransfer x = new RelayTransfer();
        x.begin(3, 0);
        x.setWeight(1, 0);
        x.setWeight(2, 0);
        x.inject(3);
        x.inject(6);
        x.inject(7);
        due("peeling never ends", x.forecast(0), NONE);
        due("bestPolicy()", x.bestPolicy(), 0);
        due("bearable(0, 0)", x.bearable(0, 0), 99);
    }

    private void bearableAtItsTicks() {
        for (int needed : new int[] {2, 3, 50, 99, 100, 101}) {
            int seed = seedForTicks(needed, 0, FEW_SINGLES);
            RelayTransfer x = twoBlocks(seed, 0, FEW_SINGLES);
            for (int ticks = Math.max(0, needed - 2); ticks <= Math.min(100, needed + 2); ticks++) {
                int greatest = NONE;
                for (int loss = 0; loss <= 99; loss++) {
                    int due = ticksOfTwoBlocks(seed, loss, FEW_SINGLES, ticks);
                    greatest = due != NONE ? loss : greatest;
                }
                checks.holds("needed ticks decide", (greatest == NONE) == (ticks < needed));
                due("bearable(0, " + ticks + "), " + needed + " needed", x.bearable(0, ticks), greatest);
            }
        }
    }

    private void bearableAtZeroTicks() {
        RelayTransfer x = new RelayTransfer();
        due("bearable(0, 0), nothing known", x.bearable(0, 0), NONE);
        due("bearable(1, 0), nothing known", x.bearable(1, 0), NONE);
        x.inject(1);
        x.inject(3);
        x.inject(6);
        due("bearable(1, 0), one missing", x.bearable(1, 0), NONE);
        x.inject(8);
        due("bearable(1, 0), all known", x.bearable(1, 0), 99);
        x.undo();
        due("bearable(1, 0), one missing again", x.bearable(1, 0), NONE);
    }

    /** The greatest of all losses, tried one by one; now and then a smaller one would not do. */
    private void bearableIsTheGreatest() {
        boolean gap = false, zero = false, most = false, none = false;
        for (int seed = 1; seed <= 40; seed++) {
            for (int link = 0; link <= 1; link++) {
                RelayTransfer x = new RelayTransfer();
                x.begin(2 + seed % 3, 1);
                x.set(1, 1 + seed % 2);
                x.set(3, seed);
                int ticks = 6 + seed % 30;
                int greatest = NONE, number = 0;
                for (int loss = 0; loss <= 99; loss++) {
                    x.setLoss(link, loss);
                    int due = x.forecast(1);
                    if (due != NONE && due <= ticks) {
                        greatest = loss;
                        number++;
                    }
                }
                due("bearable(" + link + ", " + ticks + ") of seed " + seed, x.bearable(link, ticks), greatest);
                gap |= number > 0 && number < greatest + 1;
                none |= greatest == NONE;
            }
        }
        checks.holds("a smaller loss would not do, once", gap);
        checks.holds("none would do, once", none);
        for (int number = 0; number <= 99; number++) {
            RelayTransfer x = new RelayTransfer();
            x.begin(2, 0);
            x.inject(1);
            x.set(3, new Wishes().source(2, 3).number(100, number).seed());
            due("bearable(0, 1) where " + number + " is drawn", x.bearable(0, 1), number);
            zero |= number == 0;
            most |= number == 99;
        }
        checks.holds("0 and 99", zero && most);
    }

    private void bearableWhateverIsSet() {
        for (int loss = 0; loss <= 99; loss += 33) {
            RelayTransfer x = new RelayTransfer();
            x.set(1, 2);
            x.setLoss(0, loss);
            RelayTransfer y = new RelayTransfer();
            y.set(1, 2);
            due("bearable(0, 40) with " + loss, x.bearable(0, 40), y.bearable(0, 40));
            due("the loss stays", x.node(0, 2), loss);
        }
        RelayTransfer x = new RelayTransfer();
        x.set(1, 2);
        x.set(3, new Wishes().any(6).any(6).atMost(100, 98).seed());
        x.setLoss(1, 99);
        due("the other link loses", x.bearable(0, 2), NONE);
        checks.holds("it would do for the link itself", x.bearable(1, 40) != NONE);
    }

    /** Everything happens in a copy: what can be undone and the images too are left as they are. */
    private void trialsLeaveEverything() {
        for (Story before : new Story[] {x -> { }, Stories.LOST, Stories.BUSY, Stories.FULL}) {
            String want = Story.everything(before);
            Story after = before.then(x -> {
                x.forecast(0);
                x.forecast(1);
                x.bestPolicy();
                x.bearable(0, 100);
                x.bearable(x.told(1), 0);
                x.bearable(x.told(1), 50);
            });
            checks.holds("trials change nothing", Story.everything(after).equals(want));
        }
    }
}
