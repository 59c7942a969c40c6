/**
 * A BoundsPlanner that counts its calls: the document promises nothing behind the 512th, so a test
 * that makes more of them is wrong itself.
 */
final class Planner {
    static final int MOST_CALLS = 512;
    private final BoundsPlanner x = new BoundsPlanner();
    private int calls = 0;

    private BoundsPlanner called() {
        calls++;
        if (calls > MOST_CALLS) {
            throw new IllegalStateException("the test makes more calls than are promised");
        }
        return x;
    }

    int callsLeft() {
        return MOST_CALLS - calls;
    }

    int feed(int a, int b, int c, int d, int e) {
        return called().feed(a, b, c, d, e);
    }

    int index(int i, int n, int m, int how) {
        return called().index(i, n, m, how);
    }

    boolean drop(int i) {
        return called().drop(i);
    }

    int filter(int n) {
        return called().filter(n);
    }

    int value(int n) {
        return called().value(n);
    }

    int many(int i, int w) {
        return called().many(i, w);
    }

    int end(int i, int w, int k, boolean high, int what) {
        return called().end(i, w, k, high, what);
    }

    int inside(int i, int w) {
        return called().inside(i, w);
    }

    int rank(int i) {
        return called().rank(i);
    }

    int ranges(int i) {
        return called().ranges(i);
    }

    int choose() {
        return called().choose();
    }
}
