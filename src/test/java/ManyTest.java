/** Promise 7: many. */
public final class ManyTest {
    public static void main(String[] args) {
        noneSuch();
        counts();
        whichElementsSayIt();
        Checks.finish("ManyTest");
    }

    private static void noneSuch() {
        BoundsPlanner x = new BoundsPlanner();
        Tape.index(x, 0, "a", "", 0);
        Tape.index(x, 7, "a", "b", 0);
        Checks.due("without filter", x.many(0, 0), -2);
        Tape.filter(x, "{a: 1}");
        Checks.due("one", x.many(0, 0), 1);
        Checks.due("no second path", x.many(0, 1), -2);
        Checks.due("free second path", x.many(7, 1), -1);
        int[] wrong = {-1, 2, 3, 8, Integer.MIN_VALUE, Integer.MAX_VALUE};
        for (int w : wrong) {
            Checks.due("path " + w, x.many(0, w), -2);
            Checks.due("path " + w + " of 7", x.many(7, w), -2);
        }
        int[] wrongIndexes = {-1, 1, 6, 8, Integer.MIN_VALUE, Integer.MAX_VALUE};
        for (int i : wrongIndexes) {
            Checks.due("index " + i, x.many(i, 0), -2);
        }
    }

    private static void count(String filter, int single, int many) {
        BoundsPlanner x = new BoundsPlanner();
        Checks.due("filter " + filter, Tape.filter(x, filter), 0);
        Tape.index(x, 0, "a", "z", 0);
        Tape.index(x, 1, "z", "a", 8);
        Checks.due("many of " + filter, x.many(0, 0), single);
        Checks.due("many of " + filter + ", MANY-KEYED", x.many(1, 1), many);
        Checks.due("the other path is free", x.many(0, 1), -1);
    }

    private static void counts() {
        count("{}", -1, -1);
        count("{a: 1}", 1, 1);
        count("{a: []}", -1, -1);
        count("{a: {}}", 1, 1);
        count("{a: {$eq: [1]}}", -1, -1);
        count("{a: {$in: []}}", 0, 0);
        count("{a: {$in: [1, 2, 3]}}", 3, 3);
        count("{a: {$in: [1, 1L, 1, 'x', 'x', null, null, true, {}, {}]}}", 5, 5);
        count("{a: {$in: [1, [1]]}}", -1, -1);
        count("{a: {$ne: 1}}", -1, -1);
        count("{a: {$nin: [1]}}", -1, -1);
        count("{a: {$exists: true}}", -1, -1);
        count("{a: {$size: 1}}", -1, -1);
        count("{a: {$not: {$eq: 1}}}", -1, -1);
        count("{a: {$lt: null}}", 0, 0);
        count("{a: {$gt: null}}", 0, 0);
        count("{a: {$lte: null}}", 1, 1);
        count("{a: {$gte: null}}", 1, 1);
        count("{a: {$lt: []}}", -1, -1);
        count("{a: {$lte: []}}", -1, -1);
        count("{a: {$gt: []}}", -1, -1);
        count("{a: {$gte: []}}", -1, -1);
        count("{a: {$gt: 5, $lt: 3}}", 0, 1);
        count("{a: {$gt: 5, $lt: 5}}", 0, 1);
        count("{a: {$gte: 5, $lt: 5}}", 0, 1);
        count("{a: {$gt: 5, $lte: 5L}}", 0, 1);
        count("{a: {$gte: 5, $lte: 5L}}", 1, 1);
        count("{a: {$gt: 5, $lt: 6}}", 1, 1);
        count("{a: {$gt: 5, $lt: 'x'}}", 0, 1);
        count("{a: {$gt: true}}", 1, 1);
        count("{a: {$lt: ''}}", 1, 1);
        count("{a: {$elem: {$gt: 1}}}", 2, 2);
        count("{a: {$elem: {$gt: 1, $lt: 0}}}", 1, 1);
        count("{a: {$elem: {$in: []}}}", 1, 1);
        count("{a: {$elem: {$in: [1, 2, 3], $gt: 1}}}", 3, 3);
        count("{a: {$elem: {$size: 1}}}", -1, -1);
        count("{a: {$elem: {$eq: [1]}}}", -1, -1);
        count("{a: {$elem: {$elem: {$eq: 1}}}}", -1, -1);
        count("{a: {$elem: {}}}", -1, -1);
        count("{a: {$elem: {a: 1}}}", -1, -1);
        count("{a: {$elem: {$and: [{a: 1}]}}}", -1, -1);
    }

    private static void whichElementsSayIt() {
        count("{$and: [{a: {$in: [1, 2]}}, {$and: [{a: {$in: [2, 3]}}]}]}", 1, 2);
        count("{$or: [{a: 1}]}", -1, -1);
        count("{$nor: [{a: 1}]}", -1, -1);
        count("{$and: [{$or: [{a: 1}]}]}", -1, -1);
        count("{$or: [{$and: [{a: 1}]}]}", -1, -1);
        count("{a.b: 1}", -1, -1);
        count("{aa: 1, A: 1}", -1, -1);
        count("{b: {$elem: {a: 1}}}", -1, -1);
        count("{a: {$gt: 1}, $and: [{a: {$in: [1, 2, 3]}}, {b: 1}]}", 2, 3);
        count("{$and: [{$and: [{$and: [{$and: [{a: {$in: [1, 2, 3]}}]}]}]}]}", 3, 3);
    }
}
