import java.util.ArrayList;
import java.util.List;
import java.util.function.IntUnaryOperator;
import java.util.function.ToIntFunction;

/**
 * The ranges of all arguments (just below, at the least, at the greatest, just above), the order of
 * the codes, and that a refused call changes nothing and records nothing.
 */
public final class ArgumentTests {
    private static final int BAD = -1, STATE = -2, NONE = -9;
    private static final int MIN = Integer.MIN_VALUE, MAX = Integer.MAX_VALUE;

    /** A call that is refused, by its text, with the code that it answers. */
    private record Refused(String text, int code, ToIntFunction<RelayTransfer> call) { }

    private final Checks checks = new Checks();

    public static void main(String[] args) {
        ArgumentTests tests = new ArgumentTests();
        tests.rangesOfBegin();
        tests.rangesOfSetBlock();
        tests.rangesOfSetLoss();
        tests.rangesOfSetWeight();
        tests.rangesOfSet();
        tests.rangesOfRun();
        tests.rangesOfSetsOfBlocks();
        tests.rangesOfTold();
        tests.rangesOfBlock();
        tests.rangesOfPacket();
        tests.rangesOfWaiting();
        tests.rangesOfNode();
        tests.rangesOfNovel();
        tests.rangesOfForecastAndBearable();
        tests.rangesOfImages();
        tests.answersAtTheEdges();
        tests.badBeforeState();
        tests.stateAlone();
        tests.weightsAreNeverAllZero();
        tests.valuesAreSetBeforeAnythingComes();
        tests.noneOnlyWithoutACode();
        tests.refusedCallsChangeNothing();
        tests.checks.finish("ArgumentTests");
    }

    private void due(String call, long got, long want) {
        checks.due(call, got, want);
    }

    private static RelayTransfer begun(int blocks, int relays) {
        RelayTransfer x = new RelayTransfer();
        x.begin(blocks, relays);
        return x;
    }

    /** BAD below low and above high, and not from low to high. */
    private void range(String name, int low, int high, IntUnaryOperator call) {
        outside(name, low, high, call);
        for (int a = low; a <= high && a < MAX; a++) {
            checks.holds(name + " takes " + a, call.applyAsInt(a) != BAD);
        }
    }

    private void outside(String name, int low, int high, IntUnaryOperator call) {
        int[] beyond = {low - 1, low - 2, low - 256, MIN, MIN + 1, high + 1, high + 2, high + 256, MAX, MAX - 1};
        for (int a : beyond) {
            if (a < low || a > high) {
                due(name + " of " + a, call.applyAsInt(a), BAD);
            }
        }
    }

    private void rangesOfBegin() {
        for (int k = 2; k <= 12; k++) {
            int blocks = k;
            range("begin(" + k + ", relays)", 0, 3, a -> new RelayTransfer().begin(blocks, a));
        }
        for (int r = 0; r <= 3; r++) {
            int relays = r;
            range("begin(blocks, " + r + ")", 2, 12, a -> new RelayTransfer().begin(a, relays));
        }
        due("begin(1, 4)", new RelayTransfer().begin(1, 4), BAD);
        for (int k = 2; k <= 12; k++) {
            for (int r = 0; r <= 3; r++) {
                RelayTransfer x = begun(k, r);
                due("K of begin(" + k + ", " + r + ")", x.told(0), k);
                due("R of begin(" + k + ", " + r + ")", x.told(1), r);
                due("the source has all blocks", x.node(0, 0), k);
                due("the receiver is there", x.node(r + 1, 0), 0);
            }
        }
    }

    private void rangesOfSetBlock() {
        range("setBlock(b, 0), new", 0, 3, a -> new RelayTransfer().setBlock(a, 0));
        for (int k = 2; k <= 12; k++) {
            int blocks = k;
            range("setBlock(b, 0), K = " + k, 0, k - 1, a -> begun(blocks, 1).setBlock(a, 0));
        }
        range("setBlock(0, value)", 0, 255, a -> new RelayTransfer().setBlock(0, a));
        range("setBlock(11, value)", 0, 255, a -> begun(12, 3).setBlock(11, a));
        due("setBlock(4, 256)", new RelayTransfer().setBlock(4, 256), BAD);
    }

    private void rangesOfSetLoss() {
        range("setLoss(link, 1), new", 0, 1, a -> new RelayTransfer().setLoss(a, 1));
        for (int r = 0; r <= 3; r++) {
            int relays = r;
            range("setLoss(link, 0), R = " + r, 0, r, a -> begun(4, relays).setLoss(a, 0));
            range("setLoss(" + r + ", loss)", 0, 99, a -> begun(4, relays).setLoss(relays, a));
        }
        range("setLoss(0, loss)", 0, 99, a -> new RelayTransfer().setLoss(0, a));
        RelayTransfer fewer = begun(4, 3);
        fewer.setLoss(3, 50);
        fewer.begin(4, 2);
        due("setLoss of a link that went", fewer.setLoss(3, 50), BAD);
    }

    private void rangesOfSetWeight() {
        range("setWeight(degree, 3)", 1, 6, a -> new RelayTransfer().setWeight(a, 3));
        for (int d = 1; d <= 6; d++) {
            int degree = d;
            range("setWeight(" + d + ", weight)", 0, 9, a -> new RelayTransfer().setWeight(degree, a));
        }
        due("a degree above K is a degree", begun(2, 0).setWeight(6, 1), 0);
    }

    private void rangesOfSet() {
        range("set(what, 1)", 0, 3, a -> new RelayTransfer().set(a, 1));
        range("set(0, room)", 1, 4, a -> new RelayTransfer().set(0, a));
        range("set(1, policy)", 0, 3, a -> new RelayTransfer().set(1, a));
        range("set(2, style)", 0, 1, a -> new RelayTransfer().set(2, a));
        outside("set(3, seed)", 0, MAX, a -> new RelayTransfer().set(3, a));
        for (int seed : new int[] {0, 1, 65535, 65536, MAX - 1, MAX}) {
            RelayTransfer x = new RelayTransfer();
            due("set(3, " + seed + ")", x.set(3, seed), 1);
            due("the seed then", x.told(6), seed);
        }
        for (int what : new int[] {-1, 4}) {
            for (int v = -1; v <= 5; v++) {
                due("set(" + what + ", " + v + ")", new RelayTransfer().set(what, v), BAD);
            }
        }
    }

    private void rangesOfRun() {
        range("run(n)", 1, 100, a -> new RelayTransfer().run(a));
        for (int n = 1; n <= 100; n++) {
            RelayTransfer x = new RelayTransfer();
            x.run(n);
            due("time after run(" + n + ")", x.told(2), n);
        }
    }

    private void rangesOfSetsOfBlocks() {
        range("inject(set), new", 1, 15, a -> new RelayTransfer().inject(a));
        range("novel(1, set), new", 1, 15, a -> new RelayTransfer().novel(1, a));
        for (int k = 2; k <= 12; k++) {
            int blocks = k;
            range("inject(set), K = " + k, 1, (1 << k) - 1, a -> begun(blocks, 0).inject(a));
            range("novel(1, set), K = " + k, 1, (1 << k) - 1, a -> begun(blocks, 0).novel(1, a));
            for (int bit = k; bit <= 31; bit++) {
                due("inject of a block beyond K", begun(k, 0).inject(1 << bit | 1), BAD);
                due("novel of a block beyond K", begun(k, 0).novel(1, 1 << bit | 1), BAD);
            }
        }
    }

    private void rangesOfTold() {
        range("told(what)", 0, 16, a -> new RelayTransfer().told(a));
    }

    private void rangesOfBlock() {
        for (int k = 2; k <= 12; k++) {
            int blocks = k;
            for (int w = 0; w <= 4; w++) {
                int what = w;
                range("block(b, " + w + "), K = " + k, 0, k - 1, a -> begun(blocks, 0).block(a, what));
            }
            range("block(" + (k - 1) + ", what)", 0, 4, a -> begun(blocks, 0).block(blocks - 1, a));
        }
        range("block(0, what)", 0, 4, a -> new RelayTransfer().block(0, a));
    }

    private void rangesOfPacket() {
        for (int r = 0; r <= 3; r++) {
            int relays = r;
            range("packet(node, 0, 0), R = " + r, 1, r + 1, a -> begun(4, relays).packet(a, 0, 0));
            for (int n = 1; n <= r + 1; n++) {
                int node = n;
                range("packet(" + n + ", 0, what)", 0, 2, a -> begun(4, relays).packet(node, 0, a));
                outside("packet(" + n + ", k, 0)", 0, MAX, a -> begun(4, relays).packet(node, a, 0));
            }
        }
        due("packet of a relay that went", begun(4, 2).packet(4, 0, 0), BAD);
    }

    private void rangesOfWaiting() {
        range("waiting(0, what)", 0, 2, a -> new RelayTransfer().waiting(0, a));
        outside("waiting(k, 0)", 0, MAX, a -> new RelayTransfer().waiting(a, 0));
        for (int k : new int[] {0, 1, 19, 20, 21, MAX}) {
            due("waiting(" + k + ", 2)", new RelayTransfer().waiting(k, 2), NONE);
        }
    }

    private void rangesOfNode() {
        for (int r = 0; r <= 3; r++) {
            int relays = r;
            for (int w = 0; w <= 2; w++) {
                int what = w;
                range("node(node, " + w + "), R = " + r, 0, r + 1, a -> begun(4, relays).node(a, what));
            }
            for (int n = 0; n <= r + 1; n++) {
                int node = n;
                range("node(" + n + ", what)", 0, 2, a -> begun(4, relays).node(node, a));
            }
        }
    }

    private void rangesOfNovel() {
        for (int r = 0; r <= 3; r++) {
            int relays = r;
            range("novel(node, 1), R = " + r, 1, r + 1, a -> begun(4, relays).novel(a, 1));
        }
        due("novel at the source of nothing", new RelayTransfer().novel(0, 0), BAD);
    }

    private void rangesOfForecastAndBearable() {
        range("forecast(how)", 0, 1, a -> new RelayTransfer().forecast(a));
        range("bearable(0, ticks)", 0, 100, a -> new RelayTransfer().bearable(0, a));
        for (int r = 0; r <= 3; r++) {
            int relays = r;
            range("bearable(link, 0), R = " + r, 0, r, a -> begun(4, relays).bearable(a, 0));
            range("bearable(link, 100), R = " + r, 0, r, a -> begun(2, relays).bearable(a, 100));
        }
    }

    private void rangesOfImages() {
        range("keep(i)", 0, 1, a -> new RelayTransfer().keep(a));
        range("back(i), nothing kept", 0, 1, a -> new RelayTransfer().back(a));
        range("back(i), both kept", 0, 1, a -> {
            RelayTransfer x = new RelayTransfer();
            x.keep(0);
            x.keep(1);
            return x.back(a);
        });
    }

    /** What is set at the least and at the greatest is there, and the next call answers it. */
    private void answersAtTheEdges() {
        RelayTransfer x = begun(12, 3);
        due("setBlock(0, 0)", x.setBlock(0, 0), 7);
        due("setBlock(0, 255)", x.setBlock(0, 255), 0);
        due("setBlock(11, 255)", x.setBlock(11, 255), 117);
        due("setBlock(11, 0)", x.setBlock(11, 0), 255);
        due("block(0, 0)", x.block(0, 0), 255);
        due("block(11, 0)", x.block(11, 0), 0);
        due("block(1, 0) stays", x.block(1, 0), 17);
        for (int link = 0; link <= 3; link++) {
            due("setLoss(" + link + ", 99)", x.setLoss(link, 99), 0);
            due("its loss", x.node(link, 2), 99);
            due("setLoss(" + link + ", 0)", x.setLoss(link, 0), 99);
            due("its loss", x.node(link, 2), 0);
        }
        int[] weights = {0, 1, 5, 2, 1, 0, 0};
        for (int degree = 1; degree <= 6; degree++) {
            due("setWeight(" + degree + ", 9)", x.setWeight(degree, 9), weights[degree]);
        }
        for (int degree = 1; degree <= 5; degree++) {
            due("setWeight(" + degree + ", 0)", x.setWeight(degree, 0), 9);
        }
        due("setWeight(6, 1)", x.setWeight(6, 1), 9);
        due("setWeight(6, 1) again", x.setWeight(6, 1), 1);
        dueSettings(x);
    }

    private void dueSettings(RelayTransfer x) {
        int[][] calls = {{0, 1, 2}, {0, 4, 1}, {0, 4, 4}, {1, 3, 0}, {1, 0, 3}, {2, 1, 0}, {2, 0, 1}, {3, MAX, 1},
            {3, 0, MAX}, {3, 1, 0}};
        for (int[] c : calls) {
            int[] before = {x.told(3), x.told(4), x.told(5), x.told(6)};
            due("set(" + c[0] + ", " + c[1] + ")", x.set(c[0], c[1]), c[2]);
            before[c[0]] = c[1];
            for (int what = 0; what <= 3; what++) {
                due("told(" + (3 + what) + ") then", x.told(3 + what), before[what]);
            }
        }
    }

    /** Where both apply to one call, BAD is returned. */
    private void badBeforeState() {
        int[][] wrong = {{-1, 5}, {4, 5}, {0, -1}, {0, 256}, {4, 256}, {MIN, MAX}};
        Story[] late = {x -> x.run(1), x -> x.inject(1), Stories.LOST};
        for (Story story : late) {
            due("setBlock(0, 5), too late", story.end().setBlock(0, 5), STATE);
            due("setBlock(3, 255), too late", story.end().setBlock(3, 255), STATE);
            for (int[] w : wrong) {
                due("setBlock(" + w[0] + ", " + w[1] + "), too late", story.end().setBlock(w[0], w[1]), BAD);
            }
        }
        for (int degree = 1; degree <= 6; degree++) {
            Story last = Stories.onlyWeight(degree);
            due("setWeight(" + degree + ", 0), the last", last.end().setWeight(degree, 0), STATE);
            due("setWeight(" + degree + ", -1), the last", last.end().setWeight(degree, -1), BAD);
            due("setWeight(" + degree + ", 10), the last", last.end().setWeight(degree, 10), BAD);
            for (int other : new int[] {0, 7, -1, MIN, MAX}) {
                due("setWeight(" + other + ", 0), one weight left", last.end().setWeight(other, 0), BAD);
                due("setWeight(" + other + ", -1), one weight left", last.end().setWeight(other, -1), BAD);
            }
            int next = degree % 6 + 1;
            due("setWeight that would make the sum 0", last.end().setWeight(next, -1), BAD);
        }
        for (int i : new int[] {-1, 2, MIN, MAX}) {
            due("back(" + i + "), nothing kept", new RelayTransfer().back(i), BAD);
        }
    }

    private void stateAlone() {
        due("undo(), new", new RelayTransfer().undo(), STATE);
        RelayTransfer x = new RelayTransfer();
        x.run(1);
        x.undo();
        due("undo(), all undone", x.undo(), STATE);
        due("back(0), nothing kept", x.back(0), STATE);
        x.keep(1);
        due("back(0), the other kept", x.back(0), STATE);
        due("back(1), kept", x.back(1), 0);
        x = new RelayTransfer();
        x.keep(0);
        due("back(1), the other kept", x.back(1), STATE);
    }

    private void weightsAreNeverAllZero() {
        for (int degree = 1; degree <= 6; degree++) {
            RelayTransfer x = Stories.onlyWeight(degree).end();
            for (int other = 1; other <= 6; other++) {
                due("setWeight(" + other + ", 0)", x.setWeight(other, 0), other == degree ? STATE : 0);
            }
            due("setWeight(" + degree + ", 9)", x.setWeight(degree, 9), 1);
            due("setWeight(" + degree + ", 0)", x.setWeight(degree, 0), STATE);
            int next = degree % 6 + 1;
            due("setWeight(" + next + ", 1)", x.setWeight(next, 1), 0);
            due("setWeight(" + degree + ", 0), another is left", x.setWeight(degree, 0), 9);
            due("setWeight(" + next + ", 0)", x.setWeight(next, 0), STATE);
        }
    }

    /** The time is 0 and told(9) is 0, each for itself. */
    private void valuesAreSetBeforeAnythingComes() {
        RelayTransfer x = new RelayTransfer();
        x.inject(6);
        due("time", x.told(2), 0);
        due("setBlock at the time 0 after an arrival", x.setBlock(0, 9), STATE);
        x = Stories.LOST.end();
        due("arrived", x.told(9), 0);
        due("setBlock at the time 1, nothing arrived", x.setBlock(0, 9), STATE);
        x.begin(4, 1);
        due("setBlock after begin", x.setBlock(0, 9), 7);
        x.inject(1);
        x.undo();
        due("setBlock, the arrival undone", x.setBlock(0, 8), 9);
        x.keep(0);
        x.run(3);
        due("setBlock, late", x.setBlock(0, 5), STATE);
        x.back(0);
        due("setBlock, back at the time 0", x.setBlock(0, 5), 8);
        x.inject(1);
        due("the packet has the value that was set", x.packet(2, 0, 1), 5);
    }

    private void noneOnlyWithoutACode() {
        RelayTransfer x = new RelayTransfer();
        for (int what = 1; what <= 4; what++) {
            due("block(3, " + what + ")", x.block(3, what), NONE);
            due("block(4, " + what + ")", x.block(4, what), BAD);
            due("block(-1, " + what + ")", x.block(-1, what), BAD);
        }
        due("block(3, 5)", x.block(3, 5), BAD);
        due("block(3, -1)", x.block(3, -1), BAD);
        for (int node = 1; node <= 2; node++) {
            due("packet of an empty list", x.packet(node, 0, 0), NONE);
            due("packet of an empty list at MAX", x.packet(node, MAX, 2), NONE);
            due("packet, what below", x.packet(node, 0, -1), BAD);
            due("packet, what above", x.packet(node, 0, 3), BAD);
            due("packet, what above at MAX", x.packet(node, MAX, 3), BAD);
            due("packet, k below", x.packet(node, -1, 0), BAD);
            due("packet, k at MIN", x.packet(node, MIN, 2), BAD);
        }
        due("packet(0, 0, 0)", x.packet(0, 0, 0), BAD);
        due("packet(0, 4, 0)", x.packet(0, 4, 0), BAD);
        due("packet(3, 0, 0)", x.packet(3, 0, 0), BAD);
        due("waiting(0, 0)", x.waiting(0, 0), NONE);
        due("waiting(MAX, 2)", x.waiting(MAX, 2), NONE);
        due("waiting(0, 3)", x.waiting(0, 3), BAD);
        due("waiting(MAX, -1)", x.waiting(MAX, -1), BAD);
        due("waiting(-1, 0)", x.waiting(-1, 0), BAD);
        noneOnlyWithoutACodeAtLinks(x);
    }

    private void noneOnlyWithoutACodeAtLinks(RelayTransfer x) {
        due("node(2, 2), the receiver has no link", x.node(2, 2), NONE);
        due("node(1, 2), the last relay has one", x.node(1, 2), 0);
        due("node(2, 3)", x.node(2, 3), BAD);
        due("node(3, 2)", x.node(3, 2), BAD);
        due("node(-1, 2)", x.node(-1, 2), BAD);
        due("forecast(0) is NONE", x.forecast(0), NONE);
        due("forecast(-1)", x.forecast(-1), BAD);
        due("forecast(2)", x.forecast(2), BAD);
        due("bearable(1, 0) is NONE", x.bearable(1, 0), NONE);
        due("bearable(2, 0)", x.bearable(2, 0), BAD);
        due("bearable(-1, 0)", x.bearable(-1, 0), BAD);
        due("bearable(1, -1)", x.bearable(1, -1), BAD);
        due("bearable(1, 101)", x.bearable(1, 101), BAD);
        due("bearable(2, 101)", x.bearable(2, 101), BAD);
    }

    private void refusedCallsChangeNothing() {
        for (Story before : new Story[] {Stories.BUSY, Stories.FULL, Stories.LOST, x -> { }}) {
            String due = Story.everything(before);
            for (Refused r : badCalls()) {
                dueRefused(r, before, due);
            }
        }
        for (Story before : new Story[] {Stories.BUSY, Stories.FULL}) {
            String due = Story.everything(before);
            dueRefused(new Refused("setBlock(0, 5), too late", STATE, x -> x.setBlock(0, 5)), before, due);
            dueRefused(new Refused("setWeight(2, 0), the last", STATE, x -> x.setWeight(2, 0)), before, due);
            dueRefused(new Refused("back(1), nothing kept", STATE, x -> x.back(1)), before, due);
        }
        Story empty = x -> { };
        dueRefused(new Refused("undo(), nothing recorded", STATE, x -> x.undo()), empty, Story.everything(empty));
        Story undone = x -> {
            x.run(1);
            x.keep(0);
            x.undo();
        };
        dueRefused(new Refused("undo(), all undone", STATE, x -> x.undo()), undone, Story.everything(undone));
    }

    private void dueRefused(Refused refused, Story before, String due) {
        due(refused.text, refused.call.applyAsInt(before.end()), refused.code);
        String got = Story.everything(before.then(x -> refused.call.applyAsInt(x)));
        checks.holds(refused.text + " changes nothing", got.equals(due));
    }

    private static List<Refused> badCalls() {
        List<Refused> calls = new ArrayList<>();
        int[][] pairs = {{-1, 1}, {99, 1}, {1, -1}, {1, 10000}};
        for (int[] p : pairs) {
            int a = p[0], b = p[1];
            String arguments = "(" + a + ", " + b + ")";
            calls.add(new Refused("setBlock" + arguments, BAD, x -> x.setBlock(a, b)));
            calls.add(new Refused("setLoss" + arguments, BAD, x -> x.setLoss(a, b)));
            calls.add(new Refused("setWeight" + arguments, BAD, x -> x.setWeight(a, b)));
            calls.add(new Refused("set" + arguments, BAD, x -> x.set(a, b)));
            calls.add(new Refused("bearable" + arguments, BAD, x -> x.bearable(a, b)));
            calls.add(new Refused("node" + arguments, BAD, x -> x.node(a, b)));
            calls.add(new Refused("novel" + arguments, BAD, x -> x.novel(a, b)));
        }
        for (int a : new int[] {-1, 1 << 12, 101 << 12}) {
            calls.add(new Refused("run(" + a + ")", BAD, x -> x.run(a)));
            calls.add(new Refused("inject(" + a + ")", BAD, x -> x.inject(a)));
            calls.add(new Refused("keep(" + a + ")", BAD, x -> x.keep(a)));
            calls.add(new Refused("back(" + a + ")", BAD, x -> x.back(a)));
            calls.add(new Refused("forecast(" + a + ")", BAD, x -> x.forecast(a)));
        }
        calls.add(new Refused("begin(1, 0)", BAD, x -> x.begin(1, 0)));
        calls.add(new Refused("begin(13, 0)", BAD, x -> x.begin(13, 0)));
        calls.add(new Refused("begin(2, -1)", BAD, x -> x.begin(2, -1)));
        calls.add(new Refused("begin(2, 4)", BAD, x -> x.begin(2, 4)));
        calls.add(new Refused("run(0)", BAD, x -> x.run(0)));
        calls.add(new Refused("run(101)", BAD, x -> x.run(101)));
        calls.add(new Refused("inject(0)", BAD, x -> x.inject(0)));
        calls.add(new Refused("set(0, 0)", BAD, x -> x.set(0, 0)));
        calls.add(new Refused("set(0, 5)", BAD, x -> x.set(0, 5)));
        calls.add(new Refused("set(1, 4)", BAD, x -> x.set(1, 4)));
        calls.add(new Refused("set(2, 2)", BAD, x -> x.set(2, 2)));
        calls.add(new Refused("set(3, -1)", BAD, x -> x.set(3, -1)));
        calls.add(new Refused("keep(2)", BAD, x -> x.keep(2)));
        calls.add(new Refused("back(2)", BAD, x -> x.back(2)));
        return calls;
    }
}
