/** Promises 10 and 11: rank and ranges. */
public final class RankTest {
    public static void main(String[] args) {
        noneSuch();
        both("{}", 0, 1);
        both("{b: 1}", 0, 1);
        both("{a: []}", 0, 1);
        both("{a: 1}", 2, 1);
        both("{a: {$in: [1, 2, 3]}}", 2, 3);
        both("{a: {$in: []}}", 2, 0);
        both("{a: {$in: []}, b: {$in: [1, 2]}}", 3, 0);
        both("{a: {$in: [1, 2]}, b: {$in: []}}", 3, 0);
        both("{a: {$in: [1, 2]}, b: {$gt: 5}}", 3, 2);
        both("{a: {$in: [1, 2]}, b: {$in: [1, 2, 3]}}", 3, 6);
        both("{a: {$in: [1, 2]}, b: {$ne: 3}}", 2, 2);
        both("{a: {$gt: 1}}", 1, 1);
        both("{a: {$gt: 1}, b: 1}", 1, 1);
        both("{a: {$gt: 1, $lt: 0}, b: {$in: [1, 2]}}", 3, 0);
        both("{a: {$gt: null}}", 2, 0);
        both("{a: {$gte: null}}", 2, 1);
        both("{a: {$gte: 5, $lte: 5L}, b: 1}", 3, 1);
        both("{a: {$gte: 5, $lte: 6}, b: 1}", 1, 1);
        both("{a: {$elem: {$eq: 1}}}", 1, 2);
        both("{a: {$elem: {$eq: 1}}, b: {$in: [1, 2, 3]}}", 1, 2);
        both("{a: 1, b: {$elem: {$in: [1, 2, 3]}}}", 3, 4);
        both("{a: {$lte: true, $gte: true}}", 2, 1);
        oneHundredAndMore();
        Checks.finish("RankTest");
    }

    private static void both(String filter, int rank, int ranges) {
        BoundsPlanner x = new BoundsPlanner();
        Tape.index(x, 5, "a", "b", 3);
        Tape.index(x, 6, "a", "", 1);
        Checks.due("filter " + filter, Tape.filter(x, filter), 0);
        Checks.due("rank by " + filter, x.rank(5), rank);
        Checks.due("ranges by " + filter, x.ranges(5), ranges);
        Checks.due("rank of a alone by " + filter, x.rank(6), Math.min(rank, 2));
        Checks.due("ranges of a alone by " + filter, x.ranges(6), rank == 0 ? 1 : x.many(6, 0));
    }

    private static void oneHundredAndMore() {
        StringBuilder items = new StringBuilder();
        for (int i = 0; i < 80; i++) {
            items.append(i == 0 ? "" : ", ").append((i * 37) % 80);
        }
        String in = "{$in: [" + items + "]}";
        both("{a: " + in + ", b: " + in + "}", 3, 6400);
    }

    private static void noneSuch() {
        BoundsPlanner x = new BoundsPlanner();
        Tape.index(x, 0, "a", "", 0);
        Checks.due("rank without filter", x.rank(0), -1);
        Checks.due("ranges without filter", x.ranges(0), -1);
        Tape.filter(x, "{a: 1}");
        int[] wrong = {-1, 1, 7, 8, Integer.MIN_VALUE, Integer.MAX_VALUE};
        for (int i : wrong) {
            Checks.due("rank of " + i, x.rank(i), -1);
            Checks.due("ranges of " + i, x.ranges(i), -1);
        }
        x.filter(0);
        Checks.due("rank behind no document", x.rank(0), -1);
        Checks.due("ranges behind no document", x.ranges(0), -1);
    }
}
