/** Promise 9: inside. */
public final class InsideTest {
    public static void main(String[] args) {
        noneSuch();
        inside("{a: 5}", "5", 1);
        inside("{a: 5}", "5L", 1);
        inside("{a: 5}", "6", 0);
        inside("{a: 5}", "'5'", 0);
        inside("{a: {$lt: 5}}", "5", 0);
        inside("{a: {$lt: 5}}", "4", 1);
        inside("{a: {$lt: 5}}", "-9223372036854775808L", 1);
        inside("{a: {$lt: 5}}", "null", 0);
        inside("{a: {$lte: 5}}", "5L", 1);
        inside("{a: {$gt: 5}}", "5", 0);
        inside("{a: {$gt: 5}}", "6", 1);
        inside("{a: {$gt: 5}}", "'x'", 0);
        inside("{a: {$gte: 5}}", "5", 1);
        inside("{a: {$gt: 1, $lt: 5}}", "1", 0);
        inside("{a: {$gt: 1, $lt: 5}}", "3", 1);
        inside("{a: {$gt: 1, $lt: 5}}", "5", 0);
        inside("{a: {$gt: 5, $lt: 1}}", "3", 0);
        inside("{a: {$in: [1, 'x', true]}}", "'x'", 1);
        inside("{a: {$in: [1, 'x', true]}}", "true", 1);
        inside("{a: {$in: [1, 'x', true]}}", "false", 0);
        inside("{a: {$in: []}}", "1", 0);
        inside("{a: {$elem: {$gt: 5}}}", "[]", 1);
        inside("{a: {$elem: {$gt: 5}}}", "[1]", 1);
        inside("{a: {$elem: {$gt: 5}}}", "6", 1);
        inside("{a: {$elem: {$gt: 5}}}", "5", 0);
        inside("{a: {$gt: 5}}", "[6]", 0);
        inside("{a: {$lte: null}}", "null", 1);
        inside("{a: {$lt: null}}", "null", 0);
        inside("{a: {$gte: {b: 1}}}", "{b: 1L}", 1);
        inside("{a: {$gt: {b: 1}}}", "{b: 1, c: 1}", 1);
        inside("{a: {$lt: {b: 1}}}", "{a: 5}", 1);
        inside("{a: {$lt: {b: 1}}}", "{c: null}", 1);
        inside("{a: {$lt: 'b'}}", "'azzz'", 1);
        inside("{a: {$gt: 'b'}}", "'b '", 1);
        inside("{b: 1}", "5", 1);
        inside("{}", "[]", 1);
        inside("{a: {$lt: true}}", "false", 1);
        String deep = "{x: ".repeat(14) + "{y: 1}" + "}".repeat(14);
        inside("{a: " + deep + "}", deep, 1);
        inside("{a: " + deep + "}", deep.replace("1", "1L"), 1);
        inside("{a: " + deep + "}", deep.replace("1", "2"), 0);
        Checks.finish("InsideTest");
    }

    private static void inside(String filter, String value, int want) {
        BoundsPlanner x = new BoundsPlanner();
        Checks.due("index", Tape.index(x, 1, "z", "a", 2), 0);
        Checks.due("filter " + filter, Tape.filter(x, filter), 0);
        Tape.value(x, value);
        Checks.due(value + " in " + filter, x.inside(1, 1), want);
        Checks.due("in the free path", x.inside(1, 0), 1);
    }

    private static void noneSuch() {
        BoundsPlanner x = new BoundsPlanner();
        Tape.index(x, 0, "a", "", 0);
        Tape.value(x, "1");
        Checks.due("without filter", x.inside(0, 0), -1);
        Tape.filter(x, "{}");
        Checks.due("free", x.inside(0, 0), 1);
        Checks.due("no second path", x.inside(0, 1), -1);
        int[] wrong = {-1, 2, 8, Integer.MIN_VALUE, Integer.MAX_VALUE};
        for (int n : wrong) {
            Checks.due("index " + n, x.inside(n, 0), -1);
            Checks.due("path " + n, x.inside(0, n), -1);
        }
        x.value(0);
        Checks.due("free, but without value", x.inside(0, 0), -1);
    }
}
