/**
 * Calls that a test makes on a new object, told again for each question, so that no object is used
 * for more than the 512 calls for which the document promises anything.
 */
interface Story {
    void tell(RelayTransfer x);

    default Story then(Story more) {
        return x -> {
            tell(x);
            more.tell(x);
        };
    }

    default RelayTransfer end() {
        RelayTransfer x = new RelayTransfer();
        tell(x);
        return x;
    }

    /** All that can be asked without changing anything, but for what can be undone. */
    static String present(RelayTransfer x) {
        StringBuilder text = new StringBuilder();
        for (int what = 0; what <= 15; what++) {
            text.append(x.told(what)).append(' ');
        }
        text.append(x.overhead());
        for (int b = 0; b < x.told(0); b++) {
            text.append("\nblock");
            for (int what = 0; what <= 4; what++) {
                text.append(' ').append(x.block(b, what));
            }
        }
        for (int node = 0; node <= x.told(1) + 1; node++) {
            text.append("\nnode ").append(x.node(node, 0)).append(' ').append(x.node(node, 1));
            text.append(' ').append(x.node(node, 2)).append(list(x, node, 0)).append(list(x, node, 1));
        }
        for (int k = 0; x.waiting(k, 0) >= 0; k++) {
            text.append("\nwaiting ").append(x.waiting(k, 0)).append(' ').append(x.waiting(k, 1));
        }
        return text.append('\n').toString();
    }

    static String list(RelayTransfer x, int node, int what) {
        StringBuilder text = new StringBuilder(" (");
        for (int k = 0; x.packet(node, k, what) >= 0; k++) {
            text.append(k == 0 ? "" : " ").append(x.packet(node, k, what));
        }
        return text.append(')').toString();
    }

    /** The value of a packet while the blocks have their first values. */
    static int firstValueOf(int set) {
        int value = 0;
        for (int b = 0; b < 12; b++) {
            value ^= (set >> b & 1) * (10 * b + 7);
        }
        return value;
    }

    /** The present and what would come of it: weights, seed and losses show here too. */
    static String presentAndFuture(Story story) {
        StringBuilder text = new StringBuilder(present(story.end()));
        RelayTransfer x = story.end();
        text.append(x.forecast(0)).append(' ').append(x.forecast(1)).append(' ').append(x.bestPolicy());
        text.append(' ').append(x.bearable(0, 30)).append(' ').append(x.bearable(x.told(1), 30)).append('\n');
        for (int degree = 1; degree <= 6; degree++) {
            text.append(' ').append(x.setWeight(degree, 9));
        }
        x = story.end();
        x.run(25);
        return text.append('\n').append(present(x)).toString();
    }

    /** Everything: the present, the future, all states that can be undone, and the images. */
    static String everything(Story story) {
        StringBuilder text = new StringBuilder(presentAndFuture(story)).append(past(story));
        for (int i = 0; i <= 1; i++) {
            int image = i;
            RelayTransfer x = story.end();
            int answer = x.back(image);
            text.append("image ").append(answer).append('\n');
            if (answer >= 0) {
                text.append(presentAndFuture(story.then(y -> y.back(image))));
            }
        }
        return text.toString();
    }

    static String past(Story story) {
        int undoable = story.end().told(16);
        StringBuilder text = new StringBuilder();
        for (int u = 1; u <= undoable; u++) {
            text.append("undo ").append(u).append(": ").append(pastAt(story, u));
        }
        return text.append("undo ").append(undone(story, undoable + 1)).append('\n').toString();
    }

    static String pastAt(Story story, int undos) {
        return undone(story, undos) + "\n" + presentAndFuture(story.then(x -> {
            for (int u = 0; u < undos; u++) {
                x.undo();
            }
        }));
    }

    private static int undone(Story story, int undos) {
        RelayTransfer x = story.end();
        int answer = 0;
        for (int u = 0; u < undos; u++) {
            answer = x.undo();
        }
        return answer;
    }
}
