/** Promise 10: rank. */
public final class RankTest {
    public static void main(String[] args) {
        free();
        moreThanOneValue();
        points();
        withoutAnyInterval();
        second();
        none();
        noFilter();
        Checks.finish("RankTest");
    }

    /** Of an index on a and b, and of one on a alone, which cannot be above 2. */
    private static void rank(String filter, int want) {
        for (int how = 0; how < 4; how++) {
            Planner x = new Planner();
            Tape.index(x, 5, "a", "b", how);
            Tape.index(x, 6, "a", "", how & 1);
            Checks.due("filter " + filter, Tape.filter(x, filter), 0);
            Checks.due("rank by " + filter, x.rank(5), want);
            Checks.due("rank of a alone by " + filter, x.rank(6), Math.min(want, 2));
        }
    }

    private static void free() {
        Checks.by("RANK: 0 when its first path is FREE");
        rank("{}", 0);
        rank("{b: 1}", 0);
        rank("{b: {$in: []}}", 0);
        rank("{a: []}", 0);
        rank("{a: {$ne: 1}, b: 1}", 0);
    }

    private static void moreThanOneValue() {
        Checks.by("RANK: 1 when that has intervals of which some are more than one value "
                + "(an END that is no value, or two that are not the SAME)");
        rank("{a: {$gt: 1}}", 1);
        rank("{a: {$lte: 1}, b: 1}", 1);
        rank("{a: {$lt: false}}", 1);
        rank("{a: {$gte: 5, $lte: 6}, b: 1}", 1);
        rank("{a: {$gt: 5, $lt: 6}, b: 1}", 1);
        rank("{a: {$gte: 'a', $lt: 'b'}}", 1);
        rank("{a: {$elem: {$eq: 1}}}", 1);
        rank("{a: {$elem: {$in: []}}, b: 1}", 1);
        rank("{a: {$elem: {$in: [true, 1]}}, b: {$in: [1, 2, 3]}}", 1);
    }

    private static void points() {
        Checks.by("RANK: otherwise (POINTS) 2 when it has no second path, or that is FREE");
        rank("{a: 1}", 2);
        rank("{a: {$in: [1, 2, 3]}, b: {$ne: 3}}", 2);
        rank("{a: {$gte: null}}", 2);
        rank("{a: {$lte: null}}", 2);
        Checks.by("RANK: POINTS by two ENDs that are the SAME");
        rank("{a: {$gte: 5, $lte: 5}}", 2);
        rank("{a: {$gte: 5, $lte: 5L}}", 2);
        rank("{a: {$lte: {b: 1}, $gte: {b: 1L}}}", 2);
        rank("{a: {$lte: true, $gte: true}}", 2);
    }

    private static void withoutAnyInterval() {
        Checks.by("RANK: (POINTS; also without any interval)");
        rank("{a: {$in: []}}", 2);
        rank("{a: {$gt: 1, $lt: 1}}", 2);
        rank("{a: {$gt: null}}", 2);
        rank("{a: {$in: []}, b: 1}", 3);
        rank("{a: {$gt: 1, $lt: 0}, b: {$in: []}}", 3);
    }

    private static void second() {
        Checks.by("RANK: 3 when that is not.");
        rank("{a: 1, b: 1}", 3);
        rank("{a: {$in: [1, 2]}, b: {$gt: 5}}", 3);
        rank("{a: {$in: [1, 2]}, b: {$in: []}}", 3);
        rank("{a: 1, b: {$elem: {$in: [1, 2, 3]}}}", 3);
    }

    private static void none() {
        Checks.by("rank: -1 when there is none");
        Planner x = Scene.withoutTape();
        for (int i : new int[] {1, 4, 6, 7, -1, 8, Integer.MIN_VALUE, Integer.MAX_VALUE}) {
            Checks.due("rank of " + i, x.rank(i), -1);
        }
    }

    private static void noFilter() {
        Checks.by("rank: -1 when there is no filter");
        Planner x = new Planner();
        Tape.index(x, 0, "a", "", 0);
        Checks.due("without any", x.rank(0), -1);
        Tape.filter(x, "{}");
        Checks.due("with one", x.rank(0), 0);
        x.filter(0);
        Checks.due("behind -1", x.rank(0), -1);
    }
}
