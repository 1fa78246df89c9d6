import java.util.ArrayList;
import java.util.List;

/**
 * What a test wishes to be drawn, draw after draw; seed() goes through the seeds for the least one
 * that grants it. So a test can name the packets that the source sends, and lost or not.
 */
final class Wishes {
    private static final int SEEDS = 100_000_000;

    private interface Wish {
        /** The seed after the draws of this wish, or -1 if it is not granted. */
        long grant(long seed);
    }

    private final List<Wish> wishes = new ArrayList<>();
    private int[] weights = {1, 5, 2, 1, 0, 0};

    static long next(long seed) {
        return (1103515245L * seed + 12345L) % 2147483648L;
    }

    static int number(long seed, int n) {
        return (int) (seed / 65536 % n);
    }

    static int seedAfter(long seed, int draws) {
        long s = seed;
        for (int i = 0; i < draws; i++) {
            s = next(s);
        }
        return (int) s;
    }

    Wishes weights(int... w) {
        weights = w;
        return this;
    }

    /** A number below n is drawn, and it is this one. */
    Wishes number(int n, int number) {
        wishes.add(seed -> number(next(seed), n) == number ? next(seed) : -1);
        return this;
    }

    Wishes atLeast(int n, int least) {
        wishes.add(seed -> number(next(seed), n) >= least ? next(seed) : -1);
        return this;
    }

    Wishes atMost(int n, int most) {
        wishes.add(seed -> number(next(seed), n) <= most ? next(seed) : -1);
        return this;
    }

    Wishes any(int draws) {
        wishes.add(seed -> seedAfter(seed, draws));
        return this;
    }

    /** The source of that many blocks draws a packet with this set. */
    Wishes source(int blocks, int set) {
        int[] w = weights;
        wishes.add(seed -> {
            long s = next(seed);
            int degree = Math.min(degreeFor(number(s, sum(w)), w), blocks);
            for (int b = 0; b < blocks; b++) {
                s = next(s);
                boolean chosen = number(s, blocks - b) < degree;
                if (chosen != ((set >> b & 1) == 1)) {
                    return -1;
                }
                degree -= chosen ? 1 : 0;
            }
            return s;
        });
        return this;
    }

    private static int sum(int[] weights) {
        int sum = 0;
        for (int w : weights) {
            sum += w;
        }
        return sum;
    }

    private static int degreeFor(int number, int[] weights) {
        int degree = 1;
        for (int reached = weights[0]; reached <= number; reached += weights[degree - 1]) {
            degree++;
        }
        return degree;
    }

    int seed() {
        for (int seed = 0; seed < SEEDS; seed++) {
            long s = seed;
            for (int i = 0; i < wishes.size() && s >= 0; i++) {
                s = wishes.get(i).grant(s);
            }
            if (s >= 0) {
                return seed;
            }
        }
        throw new AssertionError("no seed grants these wishes");
    }
}
