/** Transfers in which calls are refused. */
final class Stories {
    /** At the time 1, and the only packet was lost: a loss of 99, and a number below 99 is drawn. */
    static final Story LOST = x -> {
        x.setLoss(0, 99);
        x.run(1);
    };

    /** Packets everywhere, image 0 kept, one weight left, and seven changes can be undone. */
    static final Story BUSY = x -> {
        x.begin(5, 2);
        x.setLoss(1, 20);
        x.set(2, 1);
        x.inject(19);
        x.keep(0);
        x.run(9);
        x.setWeight(1, 0);
        x.setWeight(3, 0);
        for (int i = 0; i < 4; i++) {
            x.undo();
        }
        x.run(4);
        x.setWeight(1, 0);
        x.setWeight(3, 0);
        x.setWeight(4, 0);
    };

    /** The same with eight changes that can be undone, after more than eight. */
    static final Story FULL = BUSY.then(x -> {
        x.setLoss(0, 5);
        x.inject(3);
        x.set(1, 3);
        x.run(2);
    });

    private Stories() {
    }

    static Story onlyWeight(int degree) {
        return x -> {
            x.setWeight(degree, 1);
            for (int other = 1; other <= 6; other++) {
                if (other != degree) {
                    x.setWeight(other, 0);
                }
            }
        };
    }
}
