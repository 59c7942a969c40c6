/** ORDER, as one sees it in the intervals of $in and by inside. */
public final class OrderTest {
    public static void main(String[] args) {
        classes();
        numbers();
        texts();
        documents();
        rows();
        thatEndsFirst();
        truths();
        same();
        allInOneRow();
        deep();
        Checks.finish("OrderTest");
    }

    /** That each one is less than the next, and than all behind it. */
    private static void ascending(String... values) {
        for (int i = 0; i < values.length; i++) {
            for (int j = i + 1; j < values.length; j++) {
                less(values[i], values[j]);
            }
        }
    }

    private static void less(String less, String greater) {
        String small = point(less, 0);
        String great = point(greater, 1);
        Told.due("{a: {$in: [" + less + ", " + greater + "]}}", small + " " + great);
        small = point(less, 1);
        great = point(greater, 0);
        Told.due("{a: {$in: [" + greater + ", " + less + "]}}", small + " " + great);
        boolean alike = Val.of(less).ofClass() == Val.of(greater).ofClass();
        inside("$lt", greater, less, alike);
        inside("$lte", greater, less, alike);
        inside("$gt", less, greater, alike);
        inside("$gte", less, greater, alike);
        inside("$eq", less, greater, false);
        inside("$lte", less, greater, false);
        inside("$gte", greater, less, false);
    }

    private static void same(String one, String other) {
        Told.due("{a: {$in: [" + one + ", " + other + "]}}", point(one, 0));
        Told.due("{a: {$in: [" + other + ", " + one + "]}}", point(one, 0));
        inside("$eq", one, other, true);
        inside("$lte", one, other, true);
        inside("$gte", one, other, true);
        if (Val.of(one).kind != 10) {
            inside("$lt", one, other, false);
            inside("$gt", one, other, false);
        }
    }

    private static String point(String value, int item) {
        String name = "a/$in/" + item;
        return Val.of(value).ofClass() + "[" + name + "," + name + "]";
    }

    private static void inside(String condition, String bound, String value, boolean want) {
        Planner x = new Planner();
        String filter = "{a: {" + condition + ": " + bound + "}}";
        Checks.due("filter " + filter, Tape.filter(x, filter), 0);
        Tape.index(x, 0, "a", "", 0);
        Tape.value(x, value);
        Checks.due(value + " in " + filter, x.inside(0, 0), want ? 1 : 0);
    }

    private static void classes() {
        Checks.by("NOTHING (1) is less than numbers (2), these less than texts (3), documents (4), truths (6)");
        ascending("null", "9223372036854775807L", "''", "{}", "false");
        ascending("null", "-9223372036854775808L", "'\udbff\udfff'", "{a: true}", "false");
        Checks.by("documents (4) are less than rows (5), these less than truths (6)");
        ascending("{a: null}", "{a: 1}", "{a: ''}", "{a: {}}", "{a: []}", "{a: false}");
        ascending("{a: {z: true}}", "{a: []}", "{a: [true]}", "{a: false}");
        ascending("{a: [null]}", "{a: [1]}", "{a: ['']}", "{a: [{}]}", "{a: [[]]}", "{a: [false]}");
        Told.due("{a: {$elem: {$in: [false, {z: true}]}}}", "4[a/$elem/$in/1,a/$elem/$in/1] 5(-,+) "
                + "6[a/$elem/$in/0,a/$elem/$in/0]");
    }

    private static void numbers() {
        Checks.by("numbers by value");
        ascending("-2147483648", "-1", "0", "1", "2147483647");
        Checks.by("numbers by value, of both kinds");
        ascending("-9223372036854775808L", "-2147483649L", "-2147483648", "-1L", "0", "1L", "255", "256",
                "2147483647", "2147483648L", "4294967296L", "9223372036854775807L");
        Checks.by("numbers by value: with a sign, and their difference may wrap around");
        ascending("-9223372036854775808L", "1L", "9223372036854775807L");
        ascending("-2147483648", "1", "2147483647");
        ascending("-9223372036854775807L", "9223372036854775806L");
    }

    private static void texts() {
        Checks.by("texts byte by byte without sign");
        ascending("'\u0001'", "' '", "'A'", "'a'", "'b'", "'\u007f'", "'\u0080'", "'\u00e9'", "'\u07ff'",
                "'\u0800'", "'\uffff'", "'\ud800\udc00'", "'\udbff\udfff'");
        ascending("'aab'", "'aba'", "'abb'", "'b'");
        ascending("'a\u007f'", "'a\u0080'", "'b'");
        Checks.by("a text less than one that it begins");
        ascending("''", "'\0'", "'\0\0'", "'a'", "'a\0'", "'a\0a'", "'a '", "'aa'", "'aaa'", "'ab'");
    }

    private static void documents() {
        Checks.by("documents element by element: by the class of the value, then by the name");
        ascending("{z: null}", "{y: 1}", "{x: ''}", "{w: {}}", "{v: []}", "{u: false}");
        ascending("{b: 9}", "{a: 'x'}");
        ascending("{a: 1, z: null}", "{a: 1, b: 1}");
        Checks.by("documents: by the name (as texts), then by the value");
        ascending("{'': 9}", "{a: 8}", "{'a\u0001': 7}", "{aa: 6}", "{b: 5}", "{\u007f: 4}", "{\u0080: 3}",
                "{\u00e9: 2}", "{\uffff: 1}", "{\ud800\udc00: 0}");
        ascending("{a: 2}", "{b: 1}");
        Checks.by("documents: then by the value");
        ascending("{a: -1}", "{a: 0}", "{a: 1L}", "{a: 2}");
        ascending("{a: ''}", "{a: 'x'}", "{a: 'xx'}");
        ascending("{a: {}}", "{a: {a: 1}}", "{a: {a: 2}}");
        ascending("{a: false}", "{a: true}");
        Checks.by("documents element by element: the first that differs counts");
        ascending("{a: 1, z: true}", "{a: 2, b: null}");
        ascending("{a: 1, b: 2, c: 3}", "{a: 1, b: 3, c: 1}");
        ascending("{a: 1, b: 1}", "{b: 1, a: 1}");
        ascending("{a: 1, b: true}", "{b: 0}");
    }

    private static void rows() {
        Checks.by("rows item by item");
        ascending("{x: [1, 9]}", "{x: [2, 1]}");
        ascending("{x: [0, 1]}", "{x: [0, 2]}", "{x: [0, 'x']}", "{x: [1]}");
        ascending("{x: [null]}", "{x: [-5L]}", "{x: ['x']}", "{x: [{}]}", "{x: [[]]}", "{x: [[0]]}", "{x: [true]}");
    }

    private static void thatEndsFirst() {
        Checks.by("a document or row that ends first is less");
        ascending("{}", "{'': null}", "{a: null}", "{a: null, b: null}");
        ascending("{a: 1}", "{a: 1, a2: null}", "{a: 1, a2: null, a3: null}", "{a: 2}");
        ascending("{x: []}", "{x: [null]}", "{x: [null, null]}", "{x: [null, null, null]}", "{x: [0]}");
        ascending("{x: [{}, 1]}", "{x: [{a: 1}]}");
        ascending("{x: [[], 1]}", "{x: [[1]]}");
    }

    private static void truths() {
        Checks.by("a truth 0 less than 1");
        ascending("false", "true");
        same("false", "false");
        same("true", "true");
    }

    private static void same() {
        Checks.by("Two are the SAME when neither is less");
        for (String value : new String[] {"null", "0", "-1L", "''", "'a\0'", "{}", "{a: [1, {}]}", "true"}) {
            same(value, value);
        }
        Checks.by("SAME: (so are numbers of both kinds with one value)");
        same("5", "5L");
        same("0", "0L");
        same("-1", "-1L");
        same("-2147483648", "-2147483648L");
        same("2147483647", "2147483647L");
        same("{a: 1}", "{a: 1L}");
        same("{a: [1, {b: 2L}]}", "{a: [1L, {b: 2}]}");
        Checks.by("SAME: not what differs in the order of its elements");
        less("{a: 1, b: 2}", "{b: 2, a: 1}");
    }

    private static void allInOneRow() {
        Checks.by("ORDER: of many values in one $in");
        String[] up = {
            "null", "-9223372036854775808L", "-1", "0L", "7", "''", "'\0'", "'A'", "'a'", "'aa'", "'\u00e9'",
            "{}", "{b: null}", "{a: 1}", "{a: 1, b: 0}", "{a: ''}", "{a: []}", "{a: true}", "false", "true",
        };
        for (int step : new int[] {1, 3, 7, 9, 11, 13, 17, 19}) {
            StringBuilder in = new StringBuilder("{a: {$in: [");
            String[] points = new String[up.length];
            for (int i = 0; i < up.length; i++) {
                int which = i * step % up.length;
                in.append(i == 0 ? "" : ", ").append(up[which]);
                points[which] = point(up[which], i);
            }
            Told.due(in.append("]}}").toString(), String.join(" ", points));
        }
    }

    private static void deep() {
        Checks.by("ORDER: of values that differ as deep as a document goes");
        String open = "{x: ".repeat(12);
        String close = "}".repeat(12);
        less(open + "{y: 0}" + close, open + "{y: 1}" + close);
        same(open + "{y: 1L}" + close, open + "{y: 1}" + close);
        String rows = "{x: " + "[".repeat(12);
        less(rows + "1" + "]".repeat(12) + "}", rows + "2" + "]".repeat(12) + "}");
        less(rows + "]".repeat(12) + "}", rows + "1" + "]".repeat(12) + "}");
    }
}
