/** Promise 11: ranges. */
public final class RangesTest {
    public static void main(String[] args) {
        ofRankThree();
        ofTheFirst();
        ofRankZero();
        none();
        noFilter();
        Checks.finish("RangesTest");
    }

    private static void ranges(String filter, int want, int ofAAlone) {
        Planner x = new Planner();
        Tape.index(x, 5, "a", "b", 3);
        Tape.index(x, 6, "a", "", 0);
        Checks.due("filter " + filter, Tape.filter(x, filter), 0);
        Checks.due("ranges by " + filter, x.ranges(5), want);
        Checks.due("ranges of a alone by " + filter, x.ranges(6), ofAAlone);
    }

    private static void ofRankThree() {
        Checks.by("RANGES: of rank 3 the intervals of its first path times those of the second");
        ranges("{a: 1, b: 1}", 1, 1);
        ranges("{a: {$in: [1, 2]}, b: {$gt: 5}}", 2, 2);
        ranges("{a: {$in: [1, 2]}, b: {$in: [1, 2, 3]}}", 6, 2);
        ranges("{a: 1, b: {$elem: {$in: [1, 2, 3]}}}", 4, 1);
        StringBuilder items = new StringBuilder();
        for (int i = 0; i < 80; i++) {
            items.append(i == 0 ? "" : ", ").append((i * 37) % 80);
        }
        String in = "{$in: [" + items + "]}";
        ranges("{a: " + in + ", b: " + in + "}", 6400, 80);
        Checks.by("RANGES: of rank 3, one of both without intervals");
        ranges("{a: {$in: []}, b: {$in: [1, 2]}}", 0, 0);
        ranges("{a: {$in: [1, 2]}, b: {$in: []}}", 0, 2);
        ranges("{a: {$gt: 1, $lt: 0}, b: {$gt: null}}", 0, 0);
    }

    private static void ofTheFirst() {
        Checks.by("RANGES: else those of the first");
        ranges("{a: {$in: [1, 2, 3]}}", 3, 3);
        ranges("{a: {$in: []}}", 0, 0);
        ranges("{a: {$in: [1, 2]}, b: {$ne: 3}}", 2, 2);
        ranges("{a: {$gt: 1}}", 1, 1);
        ranges("{a: {$gt: 1}, b: {$in: [1, 2]}}", 1, 1);
        ranges("{a: {$gt: 1}, b: {$in: []}}", 1, 1);
        ranges("{a: {$elem: {$in: [1, 2]}}, b: {$in: [1, 2, 3]}}", 3, 3);
    }

    private static void ofRankZero() {
        Checks.by("RANGES: of rank 0: 1.");
        ranges("{}", 1, 1);
        ranges("{b: {$in: [1, 2, 3]}}", 1, 1);
        ranges("{b: {$in: []}}", 1, 1);
    }

    private static void none() {
        Checks.by("ranges: -1 when there is none");
        Planner x = Scene.withoutTape();
        for (int i : new int[] {1, 4, 6, 7, -1, 8, Integer.MIN_VALUE, Integer.MAX_VALUE}) {
            Checks.due("ranges of " + i, x.ranges(i), -1);
        }
    }

    private static void noFilter() {
        Checks.by("ranges: -1 when there is no filter");
        Planner x = new Planner();
        Tape.index(x, 0, "a", "", 0);
        Checks.due("without any", x.ranges(0), -1);
        Tape.filter(x, "{}");
        Checks.due("with one", x.ranges(0), 1);
        Tape.filter(x, "{$x: 1}");
        Checks.due("behind a fault", x.ranges(0), -1);
    }
}
