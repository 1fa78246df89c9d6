import java.util.ArrayList;
import java.util.LinkedHashMap;
import java.util.List;
import java.util.Map;

/** What is recorded and what is not, the eight states and the ninth change, and the images. */
public final class HistoryTests {
    private static final int BAD = -1, STATE = -2;

    private final Checks checks = new Checks();

    public static void main(String[] args) {
        HistoryTests tests = new HistoryTests();
        tests.newObjectIsAsAfterBegin();
        tests.eachChangeIsRecorded();
        tests.changesThatChangeNothing();
        tests.noChanges();
        tests.eachChangeIsUndone();
        tests.eachChangeDropsTheOldest();
        tests.eightStatesAndTheNinth();
        tests.undoAndChangeInTurn();
        tests.undoRestoresCountsAndLists();
        tests.nothingToGoBackTo();
        tests.backBeforeAndAfterKeep();
        tests.imageKeepsEverything();
        tests.imageIsReplaced();
        tests.imagesAreApart();
        tests.imageStays();
        tests.imagesAreNotUndone();
        tests.backIsRecordedBehindTheOthers();
        tests.keepLeavesTheHistory();
        tests.beginForgetsNothingElse();
        tests.beginAndLosses();
        tests.checks.finish("HistoryTests");
    }

    private void due(String call, long got, long want) {
        checks.due(call, got, want);
    }

    private void same(String what, String got, String want) {
        checks.holds(what, got.equals(want));
    }

    private static Map<String, Story> changes() {
        Map<String, Story> changes = new LinkedHashMap<>();
        changes.put("begin", x -> x.begin(3, 3));
        changes.put("begin as it was", x -> x.begin(x.told(0), x.told(1)));
        changes.put("setLoss", x -> x.setLoss(0, 70));
        changes.put("setWeight", x -> x.setWeight(6, 9));
        changes.put("room", x -> x.set(0, 1));
        changes.put("policy", x -> x.set(1, 3));
        changes.put("style", x -> x.set(2, x.told(5) == 0 ? 1 : 0));
        changes.put("seed", x -> x.set(3, 99));
        changes.put("run", x -> x.run(3));
        changes.put("run of 100", x -> x.run(100));
        changes.put("inject", x -> x.inject(2));
        changes.put("back", x -> x.back(0));
        return changes;
    }

    /** A new object is the one that begin(4, 1) makes, with room 2, policy, style 0, and seed 1. */
    private void newObjectIsAsAfterBegin() {
        Story nothing = x -> { };
        same("begin(4, 1)", Story.presentAndFuture(x -> x.begin(4, 1)), Story.presentAndFuture(nothing));
        int[] want = {4, 1, 0, 2, 0, 0, 1, 0, 0, 0, 0, 0, 0, 0, 0, 0, 0};
        for (int what = 0; what < want.length; what++) {
            due("new: told(" + what + ")", new RelayTransfer().told(what), want[what]);
        }
        due("new: undo()", new RelayTransfer().undo(), STATE);
        for (int i = 0; i <= 1; i++) {
            due("new: back(" + i + ")", new RelayTransfer().back(i), STATE);
        }
    }

    private void eachChangeIsRecorded() {
        for (Map.Entry<String, Story> change : changes().entrySet()) {
            RelayTransfer x = new RelayTransfer();
            x.keep(0);
            for (int i = 1; i <= 10; i++) {
                change.getValue().tell(x);
                due(change.getKey() + ", told(16)", x.told(16), Math.min(i, 8));
            }
        }
        RelayTransfer x = new RelayTransfer();
        for (int i = 1; i <= 10; i++) {
            x.setBlock(0, i);
            due("setBlock, told(16)", x.told(16), Math.min(i, 8));
        }
    }

    private void changesThatChangeNothing() {
        Map<String, Story> same = new LinkedHashMap<>();
        same.put("begin", x -> x.begin(4, 1));
        same.put("setBlock", x -> x.setBlock(0, 7));
        same.put("setLoss", x -> x.setLoss(1, 0));
        same.put("setWeight", x -> x.setWeight(6, 0));
        same.put("room", x -> x.set(0, 2));
        same.put("policy", x -> x.set(1, 0));
        same.put("style", x -> x.set(2, 0));
        same.put("seed", x -> x.set(3, 1));
        same.put("back", x -> x.back(0));
        String want = Story.present(new RelayTransfer());
        for (Map.Entry<String, Story> change : same.entrySet()) {
            RelayTransfer x = new RelayTransfer();
            x.keep(0);
            change.getValue().tell(x);
            same(change.getKey() + " changes nothing", Story.present(x), want);
            due(change.getKey() + " is a change all the same", x.told(16), 1);
            due("undo()", x.undo(), 0);
            same(change.getKey() + " undone", Story.present(x), want);
        }
    }

    private void noChanges() {
        Map<String, Story> none = new LinkedHashMap<>();
        none.put("keep(1)", x -> x.keep(1));
        none.put("told", x -> x.told(16));
        none.put("block", x -> x.block(0, 1));
        none.put("packet", x -> x.packet(1, 0, 0));
        none.put("waiting", x -> x.waiting(0, 0));
        none.put("node", x -> x.node(1, 1));
        none.put("novel", x -> x.novel(1, 7));
        none.put("overhead", x -> x.overhead());
        none.put("forecast(0)", x -> x.forecast(0));
        none.put("forecast(1)", x -> x.forecast(1));
        none.put("bestPolicy", x -> x.bestPolicy());
        none.put("bearable", x -> x.bearable(1, 100));
        for (Story before : new Story[] {x -> { }, Stories.LOST, Stories.BUSY, Stories.FULL}) {
            Story kept = before.then(x -> x.keep(1));
            String want = Story.everything(kept);
            for (Map.Entry<String, Story> call : none.entrySet()) {
                same(call.getKey() + " is no change", Story.everything(kept.then(call.getValue())), want);
            }
        }
    }

    private void eachChangeIsUndone() {
        for (Map.Entry<String, Story> change : changes().entrySet()) {
            String got = Story.everything(Stories.BUSY.then(change.getValue()).then(x -> x.undo()));
            same(change.getKey() + " undone", got, Story.everything(Stories.BUSY));
        }
        Story first = x -> {
            x.setLoss(1, 30);
            x.keep(0);
        };
        Story set = first.then(x -> x.setBlock(2, 200));
        due("setBlock", set.end().block(2, 0), 200);
        same("setBlock undone", Story.everything(set.then(x -> x.undo())), Story.everything(first));
    }

    private void eachChangeDropsTheOldest() {
        due("full", Stories.FULL.end().told(16), 8);
        for (Map.Entry<String, Story> change : changes().entrySet()) {
            Story after = Stories.FULL.then(change.getValue());
            due(change.getKey() + ": still 8", after.end().told(16), 8);
            String[] got = Story.past(after).split("undo \\d+: ");
            String[] want = Story.past(Stories.FULL).split("undo \\d+: ");
            due("states", got.length, want.length);
            String latest = Story.pastAt(after, 1);
            same(change.getKey() + ": the latest", latest, "7\n" + Story.presentAndFuture(Stories.FULL));
            for (int i = 2; i < got.length; i++) {
                same(change.getKey() + ": state " + i, withoutCount(got[i]), withoutCount(want[i - 1]));
            }
            RelayTransfer x = after.end();
            for (int left = 7; left >= 0; left--) {
                due("undo()", x.undo(), left);
            }
            due("undo(), the oldest was dropped", x.undo(), STATE);
        }
    }

    /** Without the first line, which tells how many are left, and without what stands behind the state. */
    private static String withoutCount(String state) {
        String text = state.substring(state.indexOf('\n'));
        int end = text.indexOf("undo ");
        return end < 0 ? text : text.substring(0, end);
    }

    private void eightStatesAndTheNinth() {
        for (int changes = 0; changes <= 20; changes++) {
            RelayTransfer x = new RelayTransfer();
            for (int i = 1; i <= changes; i++) {
                x.setBlock(0, 100 + i);
            }
            int undoable = Math.min(8, changes);
            due("told(16) after " + changes, x.told(16), undoable);
            for (int u = 1; u <= undoable; u++) {
                due("undo() " + u + " of " + changes, x.undo(), undoable - u);
                due("told(16) then", x.told(16), undoable - u);
                due("block(0, 0) then", x.block(0, 0), changes == u ? 7 : 100 + changes - u);
            }
            int oldest = x.block(0, 0);
            due("undo() with none after " + changes, x.undo(), STATE);
            due("undo() again", x.undo(), STATE);
            due("the oldest state stays", x.block(0, 0), oldest);
            due("told(16) stays", x.told(16), 0);
        }
    }

    /** Compared with a list of the states; nothing but the number of undos in a row matters. */
    private void undoAndChangeInTurn() {
        for (int pattern = 1; pattern <= 60; pattern++) {
            RelayTransfer x = new RelayTransfer();
            List<Integer> states = new ArrayList<>();
            int present = 7;
            for (int step = 1; step <= 120; step++) {
                if (step * pattern % 7 < 4 - pattern % 3) {
                    states.add(present);
                    if (states.size() > 8) {
                        states.remove(0);
                    }
                    present = step;
                    x.setBlock(0, step);
                } else if (states.isEmpty()) {
                    due("undo() with none", x.undo(), STATE);
                } else {
                    present = states.remove(states.size() - 1);
                    due("undo()", x.undo(), states.size());
                }
                due("block(0, 0), pattern " + pattern, x.block(0, 0), present);
                due("told(16), pattern " + pattern, x.told(16), states.size());
            }
        }
    }

    private void undoRestoresCountsAndLists() {
        Story start = x -> {
            x.begin(6, 2);
            x.setLoss(0, 30);
            x.setLoss(2, 30);
        };
        for (int runs = 0; runs <= 8; runs++) {
            int undos = 8 - runs;
            Story ran = start.then(x -> runTimes(x, 8 - undos));
            Story undone = start.then(x -> runTimes(x, 8)).then(x -> undoTimes(x, undos));
            same(undos + " undos", Story.presentAndFuture(undone), Story.presentAndFuture(ran));
        }
    }

    private static void runTimes(RelayTransfer x, int times) {
        for (int i = 0; i < times; i++) {
            x.run(3);
        }
    }

    private static void undoTimes(RelayTransfer x, int times) {
        for (int i = 0; i < times; i++) {
            x.undo();
        }
    }

    private void nothingToGoBackTo() {
        for (int i = 0; i <= 1; i++) {
            RelayTransfer x = new RelayTransfer();
            x.run(4);
            due("back(" + i + "), nothing kept", x.back(i), STATE);
            due("time", x.told(2), 4);
            due("told(16)", x.told(16), 1);
            x.keep(1 - i);
            due("back(" + i + "), the other kept", x.back(i), STATE);
            due("told(16)", x.told(16), 1);
            due("keep(-1)", x.keep(-1), BAD);
            due("keep(2)", x.keep(2), BAD);
            due("back(" + i + "), wrong ones kept nothing", x.back(i), STATE);
            x.begin(2, 0);
            due("back(" + i + ") after begin()", x.back(i), STATE);
            x.undo();
            due("back(" + i + ") after undo()", x.back(i), STATE);
        }
    }

    private void backBeforeAndAfterKeep() {
        for (int i = 0; i <= 1; i++) {
            RelayTransfer x = new RelayTransfer();
            due("keep(" + i + ") at 0", x.keep(i), 0);
            x.run(100);
            due("back(" + i + ")", x.back(i), 0);
            due("time", x.told(2), 0);
            x.run(41);
            due("keep(" + i + ") at 41", x.keep(i), 41);
            x.run(1);
            due("back(" + i + ") to 41", x.back(i), 41);
        }
    }

    private static final Story OTHER = x -> {
        x.begin(12, 3);
        for (int link = 0; link <= 3; link++) {
            x.setLoss(link, 9 + link);
        }
        for (int degree = 1; degree <= 6; degree++) {
            x.setWeight(degree, 10 - degree);
        }
        x.set(0, 4);
        x.set(1, 1);
        x.set(2, 0);
        x.set(3, 31337);
        x.setBlock(3, 3);
        x.run(60);
        x.inject(4095);
    };

    private void imageKeepsEverything() {
        Story[] states = {x -> { }, Stories.LOST, Stories.BUSY, Stories.FULL, OTHER};
        for (int i = 0; i <= 1; i++) {
            int image = i;
            for (Story first : states) {
                for (Story second : new Story[] {x -> { }, Stories.LOST, OTHER}) {
                    Story back = first.then(x -> x.keep(image)).then(second).then(x -> x.back(image));
                    same("image " + i, Story.presentAndFuture(back), Story.presentAndFuture(first));
                    due("keep answers the time", first.end().keep(i), first.end().told(2));
                    due("the time then", back.end().told(2), first.end().told(2));
                }
            }
        }
    }

    private void imageIsReplaced() {
        Story twice = x -> {
            Stories.BUSY.tell(x);
            x.keep(1);
            OTHER.tell(x);
            x.keep(1);
            x.begin(2, 0);
            x.back(1);
        };
        same("the later one", Story.presentAndFuture(twice), Story.presentAndFuture(Stories.BUSY.then(OTHER)));
        Story smaller = x -> {
            OTHER.tell(x);
            x.keep(0);
            x.begin(2, 0);
            x.keep(0);
            x.begin(12, 3);
            x.back(0);
        };
        same("a smaller one", Story.presentAndFuture(smaller), Story.presentAndFuture(OTHER.then(x -> x.begin(2, 0))));
    }

    private void imagesAreApart() {
        RelayTransfer x = new RelayTransfer();
        x.run(1);
        x.keep(0);
        x.run(1);
        x.keep(1);
        x.run(1);
        due("back(0)", x.back(0), 1);
        due("back(1)", x.back(1), 2);
        x.keep(0);
        due("back(1)", x.back(1), 2);
        x.run(5);
        x.keep(1);
        due("back(0), replaced by the other", x.back(0), 2);
        due("back(1)", x.back(1), 7);
    }

    private void imageStays() {
        Story kept = Stories.BUSY.then(x -> x.keep(1));
        for (Map.Entry<String, Story> change : changes().entrySet()) {
            Story used = kept.then(x -> x.back(1)).then(change.getValue()).then(x -> x.back(1));
            same("image after " + change.getKey(), Story.presentAndFuture(used), Story.presentAndFuture(kept));
        }
        RelayTransfer x = kept.end();
        int time = x.told(2);
        for (int i = 0; i < 20; i++) {
            x.run(7);
            due("back(1) again", x.back(1), time);
        }
    }

    /** A change records everything but the images, so undo() leaves them as they are. */
    private void imagesAreNotUndone() {
        RelayTransfer x = new RelayTransfer();
        x.run(2);
        x.keep(0);
        x.undo();
        due("back(0), kept in what was undone", x.back(0), 2);
        x = new RelayTransfer();
        x.run(2);
        x.keep(0);
        x.run(3);
        x.keep(0);
        x.undo();
        due("time", x.told(2), 2);
        due("back(0), not as before", x.back(0), 5);
        x.undo();
        x.undo();
        due("back(0) at the start", x.back(0), 5);
        due("back(1), never kept", x.back(1), STATE);
        x.keep(1);
        x.undo();
        due("back(1), undo of back leaves it", x.back(1), 5);
    }

    private void backIsRecordedBehindTheOthers() {
        Story before = Stories.BUSY;
        due("changes", before.end().told(16), 7);
        Story back = before.then(x -> x.back(0));
        due("one more", back.end().told(16), 8);
        due("undo() of back", back.then(x -> x.undo()).end().told(16), 7);
        same("undone", Story.everything(back.then(x -> x.undo())), Story.everything(before));
        RelayTransfer x = new RelayTransfer();
        x.keep(0);
        for (int i = 1; i <= 8; i++) {
            x.run(i);
        }
        due("back(0), full", x.back(0), 0);
        due("told(16)", x.told(16), 8);
        int[] times = {36, 28, 21, 15, 10, 6, 3, 1};
        for (int time : times) {
            x.undo();
            due("time before", x.told(2), time);
        }
        due("the state at 0 was dropped", x.undo(), STATE);
    }

    private void keepLeavesTheHistory() {
        Story full = Stories.FULL;
        Story kept = full.then(x -> x.keep(0)).then(x -> x.keep(1));
        same("what can be undone", Story.past(kept), Story.past(full));
        Story back = kept.then(x -> x.back(1));
        due("an image keeps nothing of it", back.end().told(16), 8);
        same("the state before back", Story.pastAt(back, 1), "7\n" + Story.presentAndFuture(full));
        RelayTransfer x = new RelayTransfer();
        x.run(1);
        x.run(1);
        x.keep(0);
        x.undo();
        x.undo();
        x.back(0);
        due("told(16) is of the history, not of the image", x.told(16), 1);
    }

    /** Weights, room, policy, style and seed stay, and the losses of links that there were; all else is new. */
    private void beginForgetsNothingElse() {
        Story settings = x -> {
            x.setWeight(1, 0);
            x.setWeight(6, 9);
            x.set(0, 4);
            x.set(1, 2);
            x.set(2, 1);
            x.setLoss(0, 11);
            x.setLoss(1, 22);
        };
        Story used = settings.then(x -> {
            x.setBlock(3, 250);
            x.inject(9);
            x.run(37);
            x.set(3, 5);
        });
        for (int blocks = 2; blocks <= 12; blocks++) {
            int k = blocks;
            Story again = used.then(x -> x.begin(k, 1));
            Story fresh = settings.then(x -> x.set(3, 5)).then(x -> x.begin(k, 1));
            same("begin(" + k + ", 1)", Story.presentAndFuture(again), Story.presentAndFuture(fresh));
            due("the time that it was", used.end().begin(k, 1), 37);
        }
        RelayTransfer x = used.then(y -> y.begin(12, 1)).end();
        for (int b = 0; b < 12; b++) {
            due("first value of " + b, x.block(b, 0), 10 * b + 7);
        }
        int[] want = {12, 1, 0, 4, 2, 1, 5, 0, 0, 0, 0, 0, 0, 0, 0, 0};
        for (int what = 0; what < want.length; what++) {
            due("begun: told(" + what + ")", x.told(what), want[what]);
        }
        due("loss of link 0 stays", x.node(0, 2), 11);
        due("loss of link 1 stays", x.node(1, 2), 22);
        int[] weights = {0, 0, 5, 2, 1, 0, 9};
        for (int degree = 1; degree <= 6; degree++) {
            due("weight " + degree + " stays", x.setWeight(degree, 1), weights[degree]);
        }
    }

    /** From each R to each other one and back to 3: the losses of links that went are 0 then. */
    private void beginAndLosses() {
        for (int from = 0; from <= 3; from++) {
            for (int to = 0; to <= 3; to++) {
                RelayTransfer x = new RelayTransfer();
                x.begin(4, from);
                for (int link = 0; link <= from; link++) {
                    x.setLoss(link, 50 + link);
                }
                x.begin(5, to);
                for (int link = 0; link <= to; link++) {
                    due("loss " + link + " from " + from + " to " + to, x.node(link, 2), link <= from ? 50 + link : 0);
                }
                x.begin(6, 3);
                for (int link = 0; link <= 3; link++) {
                    int want = link <= from && link <= to ? 50 + link : 0;
                    due("loss " + link + " from " + from + " by " + to + " to 3", x.node(link, 2), want);
                }
            }
        }
    }
}
