/** Promise 7: many; which bounds a path has is in BoundsTest. */
public final class ManyTest {
    public static void main(String[] args) {
        howMany();
        noValue();
        free();
        noSuchIndex();
        noSuchPath();
        noFilter();
        Checks.finish("ManyTest");
    }

    private static void many(String filter, int first, int second) {
        Planner x = new Planner();
        Checks.due("filter " + filter, Tape.filter(x, filter), 0);
        Tape.index(x, 0, "a", "b", 0);
        Checks.due("many of a in " + filter, x.many(0, 0), first);
        Checks.due("many of b in " + filter, x.many(0, 1), second);
    }

    private static void howMany() {
        Checks.by("Of path w (0, 1) of index i: how many intervals");
        many("{a: 1, b: {$in: [1, 2]}}", 1, 2);
        many("{a: {$in: [1, 2, 3]}, b: {$gt: 1}}", 3, 1);
        many("{a: {$elem: {$in: [1, 2, 3]}}, b: {$lte: null}}", 4, 1);
        StringBuilder items = new StringBuilder();
        for (int i = 0; i < 200; i++) {
            items.append(i == 0 ? "" : ", ").append((i * 37) % 200);
        }
        many("{a: {$in: [" + items + "]}, b: 'x'}", 200, 1);
    }

    private static void noValue() {
        Checks.by("many: (0 if no value is in its bounds)");
        many("{a: {$in: []}, b: {$gt: 5, $lt: 5}}", 0, 0);
        many("{a: {$lt: null}, b: {$gt: null}}", 0, 0);
        many("{a: {$eq: 5, $gt: 'x'}, b: {$in: [1, 2], $gt: 2}}", 0, 0);
    }

    private static void free() {
        Checks.by("many: -1 when it is FREE");
        many("{}", -1, -1);
        many("{a: 1}", 1, -1);
        many("{b: 1}", -1, 1);
        many("{a: {$in: []}}", 0, -1);
        many("{a: [], b: {$ne: 1}}", -1, -1);
    }

    private static void noSuchIndex() {
        Checks.by("many: -2 when there is no such index");
        Planner x = Scene.withoutTape();
        int[] wrong = {1, 4, 6, 7, -1, 8, -3, 13, Integer.MIN_VALUE, Integer.MAX_VALUE};
        for (int i : wrong) {
            Checks.due("many of index " + i, x.many(i, 0), -2);
            Checks.due("many of index " + i + ", second path", x.many(i, 1), -2);
        }
    }

    private static void noSuchPath() {
        Checks.by("many: -2 when there is no such path");
        Planner x = Scene.withoutTape();
        int[] wrong = {-1, 2, 3, -2, Integer.MIN_VALUE, Integer.MAX_VALUE};
        for (int w : wrong) {
            Checks.due("path " + w + " of 0", x.many(0, w), -2);
            Checks.due("path " + w + " of 5", x.many(5, w), -2);
        }
        Checks.due("second path of an index without", x.many(0, 1), -2);
        Tape.filter(x, "{}");
        Checks.due("second path of an index without, if all are FREE", x.many(0, 1), -2);
    }

    private static void noFilter() {
        Checks.by("many: -2 when there is no filter");
        Planner x = new Planner();
        Tape.index(x, 0, "a", "b", 0);
        Checks.due("many", x.many(0, 0), -2);
        Checks.due("many of the second", x.many(0, 1), -2);
        Tape.filter(x, "{a: 1}");
        Checks.due("many with one", x.many(0, 0), 1);
        x.filter(0);
        Checks.due("many behind -1", x.many(0, 0), -2);
        Checks.due("many of the FREE one behind -1", x.many(0, 1), -2);
    }
}
