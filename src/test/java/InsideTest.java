/** Promise 9: inside. */
public final class InsideTest {
    public static void main(String[] args) {
        inTheBounds();
        ofAnotherClass();
        rows();
        deep();
        free();
        noSuchIndexOrPath();
        noFilter();
        noValue();
        Checks.finish("InsideTest");
    }

    private static void inside(String filter, String value, int want) {
        Planner x = new Planner();
        Checks.due("index", Tape.index(x, 1, "z", "a", 2), 0);
        Checks.due("index", Tape.index(x, 2, "a", "", 0), 0);
        Checks.due("filter " + filter, Tape.filter(x, filter), 0);
        Tape.value(x, value);
        Checks.due(value + " in " + filter, x.inside(1, 1), want);
        Checks.due(value + " in " + filter + " as the first", x.inside(2, 0), want);
    }

    private static void inTheBounds() {
        Checks.by("Whether the VALUE is in the bounds of path w of index i: 1, 0");
        inside("{a: 5}", "5", 1);
        inside("{a: 5}", "5L", 1);
        inside("{a: 5L}", "5", 1);
        inside("{a: 5}", "4", 0);
        inside("{a: 5}", "6", 0);
        inside("{a: {$gt: 1, $lt: 5}}", "1", 0);
        inside("{a: {$gt: 1, $lt: 5}}", "2", 1);
        inside("{a: {$gt: 1, $lt: 5}}", "4", 1);
        inside("{a: {$gt: 1, $lt: 5}}", "5", 0);
        inside("{a: {$gte: 1, $lte: 5}}", "1L", 1);
        inside("{a: {$gte: 1, $lte: 5}}", "5L", 1);
        inside("{a: {$gt: 5, $lt: 1}}", "3", 0);
        inside("{a: {$in: [1, 'x', true]}}", "'x'", 1);
        inside("{a: {$in: [1, 'x', true]}}", "true", 1);
        inside("{a: {$in: [1, 'x', true]}}", "false", 0);
        inside("{a: {$in: [1, 'x', true]}}", "2", 0);
        inside("{a: {$in: []}}", "1", 0);
        inside("{a: {$lt: 5}}", "-9223372036854775808L", 1);
        inside("{a: {$gt: 5}}", "9223372036854775807L", 1);
        inside("{a: {$lt: -9223372036854775808L}}", "-9223372036854775808L", 0);
        inside("{a: {$gt: -9223372036854775808L}}", "9223372036854775807L", 1);
    }

    private static void ofAnotherClass() {
        Checks.by("in the bounds: all values of v's class, and none of another");
        String[] values = {"null", "1", "'1'", "{a: 1}", "[1]", "true"};
        for (String bound : new String[] {"1", "'1'", "{a: 1}", "true"}) {
            for (String value : values) {
                int want = value.equals(bound) ? 1 : 0;
                inside("{a: {$lte: " + bound + "}}", value, want);
                inside("{a: {$gte: " + bound + "}}", value, want);
                inside("{a: " + bound + "}", value, want);
            }
        }
    }

    private static void rows() {
        Checks.by("in the bounds of $elem: besides all rows");
        for (String row : new String[] {"[]", "[1]", "[6]", "[[], {}, null]"}) {
            inside("{a: {$elem: {$gt: 5}}}", row, 1);
            inside("{a: {$elem: {$in: []}}}", row, 1);
            inside("{a: {$gt: 5}}", row, 0);
            inside("{a: {$elem: {$gt: 5}, $lt: 9}}", row, 0);
        }
        inside("{a: {$elem: {$gt: 5}}}", "6", 1);
        inside("{a: {$elem: {$gt: 5}}}", "5", 0);
        inside("{a: {$elem: {$in: []}}}", "{}", 0);
        inside("{a: {$elem: {$in: []}}}", "false", 0);
    }

    private static void deep() {
        Checks.by("in the bounds: a VALUE as deep as documents go");
        String deep = "{x: ".repeat(14) + "{y: 1}" + "}".repeat(14);
        inside("{a: " + deep + "}", deep, 1);
        inside("{a: " + deep + "}", deep.replace("1", "1L"), 1);
        inside("{a: " + deep + "}", deep.replace("1", "2"), 0);
        inside("{a: {$lte: {x: 2}}}", deep, 0);
        inside("{a: {$gte: {x: 2}}}", deep, 1);
        String rows = "{x: " + "[".repeat(14) + "1" + "]".repeat(14) + "}";
        inside("{a: " + rows + "}", rows, 1);
        inside("{a: " + rows + "}", rows.replace("1", ""), 0);
    }

    private static void free() {
        Checks.by("inside: or it is FREE: 1");
        inside("{b: 1}", "5", 1);
        inside("{}", "[]", 1);
        inside("{a: [1]}", "2", 1);
        inside("{a: {$ne: 2}}", "2", 1);
        inside("{$or: [{a: 1}]}", "2", 1);
    }

    private static void noSuchIndexOrPath() {
        Checks.by("inside: -1 (also if it is FREE) when there is no such index or path");
        Planner x = Scene.withoutTape();
        for (String filter : new String[] {"{a: 2, b: 2}", "{}"}) {
            Tape.filter(x, filter);
            Checks.due("there is one", x.inside(0, 0), 1);
            for (int i : new int[] {1, 4, 7, -1, 8, Integer.MIN_VALUE, Integer.MAX_VALUE}) {
                Checks.due("index " + i, x.inside(i, 0), -1);
            }
            for (int w : new int[] {-1, 2, Integer.MIN_VALUE, Integer.MAX_VALUE}) {
                Checks.due("path " + w, x.inside(5, w), -1);
            }
            Checks.due("no second path", x.inside(0, 1), -1);
        }
    }

    private static void noFilter() {
        Checks.by("inside: -1 when there is no filter");
        Planner x = new Planner();
        Tape.index(x, 0, "a", "b", 0);
        Tape.value(x, "1");
        Checks.due("without any", x.inside(0, 0), -1);
        Tape.filter(x, "{a: 1}");
        Checks.due("with one", x.inside(0, 0), 1);
        Tape.filter(x, "{a: {$x: 1}}");
        Checks.due("behind a fault", x.inside(0, 0), -1);
        Checks.due("behind a fault, of the other path", x.inside(0, 1), -1);
    }

    private static void noValue() {
        Checks.by("inside: -1 (also if it is FREE) when there is no value");
        Planner x = new Planner();
        Tape.index(x, 0, "a", "b", 0);
        Tape.filter(x, "{a: {$in: []}}");
        Checks.due("bounded", x.inside(0, 0), -1);
        Checks.due("FREE", x.inside(0, 1), -1);
        Tape.value(x, "1");
        Checks.due("bounded, with one", x.inside(0, 0), 0);
        Checks.due("FREE, with one", x.inside(0, 1), 1);
        x.value(0);
        Checks.due("bounded, behind -1", x.inside(0, 0), -1);
        Checks.due("FREE, behind -1", x.inside(0, 1), -1);
    }
}
