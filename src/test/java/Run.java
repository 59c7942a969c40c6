import java.util.Arrays;

/**
 * A run of calls that is written down first and made afterwards, so that what the test makes for
 * it is not taken for what the planner makes.
 */
final class Run {
    static final int MOST_CALLS = 512;
    private static final int FEED = 0;
    private static final int INDEX = 1;
    private static final int FILTER = 2;
    private static final int VALUE = 3;
    private static final int MANY = 4;
    private static final int END = 5;
    private static final int INSIDE = 6;
    private static final int RANK = 7;
    private static final int RANGES = 8;
    private static final int CHOOSE = 9;

    private final int[][] calls = new int[MOST_CALLS][];
    private final int[] answers = new int[MOST_CALLS];
    private int called = 0;

    private Run add(int... call) {
        if (called == MOST_CALLS) {
            throw new IllegalStateException("more calls than a run has");
        }
        calls[called] = call;
        called++;
        return this;
    }

    int left() {
        return MOST_CALLS - called;
    }

    /** How many calls it takes to feed so many bytes. */
    static int feedsOf(int bytes) {
        return (bytes + 19) / 20;
    }

    Run feed(byte[] bytes) {
        byte[] all = Arrays.copyOf(bytes, 20 * feedsOf(bytes.length));
        for (int at = 0; at < all.length; at += 20) {
            add(FEED, Tape.number(all, at), Tape.number(all, at + 4), Tape.number(all, at + 8),
                    Tape.number(all, at + 12), Tape.number(all, at + 16));
        }
        return this;
    }

    Run index(int i, String first, String second, int how) {
        feed(Val.utf8(first + second));
        return add(INDEX, i, Val.utf8(first).length, Val.utf8(second).length, how);
    }

    Run filter(byte[] bytes) {
        return feed(bytes).add(FILTER, bytes.length);
    }

    Run value(byte[] bytes) {
        return feed(bytes).add(VALUE, bytes.length);
    }

    Run many(int i, int w) {
        return add(MANY, i, w);
    }

    Run end(int i, int w, int k, boolean high, int what) {
        return add(END, i, w, k, high ? 1 : 0, what);
    }

    Run inside(int i, int w) {
        return add(INSIDE, i, w);
    }

    Run rank(int i) {
        return add(RANK, i);
    }

    Run ranges(int i) {
        return add(RANGES, i);
    }

    Run choose() {
        return add(CHOOSE);
    }

    /** Makes all calls on a new planner. */
    void play() {
        BoundsPlanner x = new BoundsPlanner();
        for (int i = 0; i < called; i++) {
            answers[i] = answer(x, calls[i]);
        }
    }

    private static int answer(BoundsPlanner x, int[] c) {
        switch (c[0]) {
            case FEED: return x.feed(c[1], c[2], c[3], c[4], c[5]);
            case INDEX: return x.index(c[1], c[2], c[3], c[4]);
            case FILTER: return x.filter(c[1]);
            case VALUE: return x.value(c[1]);
            case MANY: return x.many(c[1], c[2]);
            case END: return x.end(c[1], c[2], c[3], c[4] == 1, c[5]);
            case INSIDE: return x.inside(c[1], c[2]);
            case RANK: return x.rank(c[1]);
            case RANGES: return x.ranges(c[1]);
            default: return x.choose();
        }
    }

    /** The answer to call i, behind play(). */
    int answer(int i) {
        return answers[i];
    }
}
