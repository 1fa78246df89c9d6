import java.util.Random;

/**
 * Runs of drawn calls, answered by the program and by the model; after each call a few drawn questions
 * are asked of both, and at the end everything, so that no object is used for more than the 512 calls
 * for which the document promises anything. The draws have fixed seeds: each run is always the same.
 */
public final class ModelTests {
    private static final int RUNS = 1500;
    private static final int CALLS = 40;
    private static final int QUESTIONS = 5;

    private final Checks checks;
    private final Random random;
    private final RelayTransfer program = new RelayTransfer();
    private final Model model = new Model();
    private final String run;

    private ModelTests(int number, Checks checks) {
        this.checks = checks;
        random = new Random(number);
        run = "run " + number;
    }

    public static void main(String[] args) {
        Checks checks = new Checks();
        for (int number = 1; number <= RUNS && !checks.anyWrong(); number++) {
            new ModelTests(number, checks).goThrough();
        }
        checks.finish("ModelTests");
    }

    private void goThrough() {
        if (random.nextInt(4) > 0) {
            begin();
        }
        for (int i = 0; i < CALLS && !checks.anyWrong(); i++) {
            call();
            for (int q = 0; q < QUESTIONS; q++) {
                question();
            }
        }
        compareAll();
    }

    /** Now and then a little beyond the range, rarely far beyond. */
    private int within(int low, int high) {
        int dice = random.nextInt(60);
        if (dice == 0) {
            return random.nextBoolean() ? Integer.MAX_VALUE : Integer.MIN_VALUE;
        }
        if (dice <= 3) {
            return random.nextBoolean() ? low - 1 : high + 1;
        }
        return low + random.nextInt(high - low + 1);
    }

    private void due(String call, long got, long want) {
        checks.due(run + ": " + call, got, want);
    }

    private void begin() {
        int a = within(2, 12), b = within(0, 3);
        due("begin(" + a + ", " + b + ")", program.begin(a, b), model.begin(a, b));
    }

    private void call() {
        int blocks = model.told(0), relays = model.told(1);
        switch (random.nextInt(44)) {
            case 0 -> begin();
            case 1, 2, 3 -> {
                int a = within(0, blocks - 1), b = within(0, 255);
                due("setBlock(" + a + ", " + b + ")", program.setBlock(a, b), model.setBlock(a, b));
            }
            case 4, 5, 6, 7 -> {
                int a = within(0, relays), b = within(0, 99);
                due("setLoss(" + a + ", " + b + ")", program.setLoss(a, b), model.setLoss(a, b));
            }
            case 8, 9, 10 -> {
                int a = within(1, 6), b = random.nextBoolean() ? 0 : within(0, 9);
                due("setWeight(" + a + ", " + b + ")", program.setWeight(a, b), model.setWeight(a, b));
            }
            case 11, 12, 13, 14, 15 -> set();
            case 16, 17, 18, 19, 20, 21, 22 -> {
                int a = random.nextInt(3) > 0 ? within(1, 9) : within(1, 100);
                due("run(" + a + ")", program.run(a), model.run(a));
            }
            case 23, 24, 25, 26, 27, 28 -> {
                int a = within(1, (1 << blocks) - 1);
                due("inject(" + a + ")", program.inject(a), model.inject(a));
            }
            case 29, 30, 31, 32, 33 -> due("undo()", program.undo(), model.undo());
            case 34 -> {
                int a = within(0, 1);
                due("forecast(" + a + ")", program.forecast(a), model.forecast(a));
            }
            case 35 -> due("bestPolicy()", program.bestPolicy(), model.bestPolicy());
            case 36 -> {
                int a = within(0, relays), b = within(0, 100);
                due("bearable(" + a + ", " + b + ")", program.bearable(a, b), model.bearable(a, b));
            }
            case 37, 38, 39 -> {
                int a = within(0, 1);
                due("keep(" + a + ")", program.keep(a), model.keep(a));
            }
            case 40, 41 -> {
                int a = within(0, 1);
                due("back(" + a + ")", program.back(a), model.back(a));
            }
            default -> novel(within(1, relays + 1), within(1, (1 << blocks) - 1));
        }
    }

    private void set() {
        int a = within(0, 3);
        int[] most = {4, 3, 1, Integer.MAX_VALUE - 1};
        int b = a < 0 || a > 3 ? 1 : within(a == 0 ? 1 : 0, most[a] - (a == 3 ? 1 : 0));
        due("set(" + a + ", " + b + ")", program.set(a, b), model.set(a, b));
    }

    private void novel(int node, int set) {
        due("novel(" + node + ", " + set + ")", program.novel(node, set), model.novel(node, set));
    }

    private void question() {
        int what = within(0, 4);
        switch (random.nextInt(8)) {
            case 0, 1 -> told(within(0, 16));
            case 2 -> block(within(0, model.told(0) - 1), what);
            case 3 -> waiting(within(0, Math.max(0, model.told(13))), what);
            case 4 -> node(within(0, model.told(1) + 1), what);
            case 5 -> packet(within(1, model.told(1) + 1), within(0, 5), what);
            case 6 -> novel(within(1, model.told(1) + 1), within(1, (1 << model.told(0)) - 1));
            default -> checks.due(run + ": overhead()", program.overhead(), model.overhead());
        }
    }

    private void told(int what) {
        due("told(" + what + ")", program.told(what), model.told(what));
    }

    private void block(int block, int what) {
        due("block(" + block + ", " + what + ")", program.block(block, what), model.block(block, what));
    }

    private void waiting(int k, int what) {
        due("waiting(" + k + ", " + what + ")", program.waiting(k, what), model.waiting(k, what));
    }

    private void node(int node, int what) {
        due("node(" + node + ", " + what + ")", program.node(node, what), model.node(node, what));
    }

    private void packet(int node, int k, int what) {
        due("packet(" + node + ", " + k + ", " + what + ")", program.packet(node, k, what), model.packet(node, k, what));
    }

    private void compareAll() {
        for (int what = 0; what <= 16; what++) {
            told(what);
        }
        checks.due(run + ": overhead()", program.overhead(), model.overhead());
        for (int b = 0; b < model.told(0); b++) {
            for (int what = 0; what <= 4; what++) {
                block(b, what);
            }
        }
        for (int k = 0; k <= model.told(13); k++) {
            waiting(k, 0);
            waiting(k, 1);
        }
        for (int node = 0; node <= model.told(1) + 1; node++) {
            for (int what = 0; what <= 2; what++) {
                node(node, what);
            }
            for (int k = 0; k <= model.node(node, 0) && node > 0; k++) {
                packet(node, k, 0);
                packet(node, k, 1);
            }
        }
    }
}
