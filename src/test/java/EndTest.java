/** Promise 8: end. */
public final class EndTest {
    public static void main(String[] args) {
        oneCondition();
        severalConditions();
        elem();
        manyKeyed();
        order();
        deep();
        noneSuch();
        Checks.finish("EndTest");
    }

    private static void oneCondition() {
        Told.due("{}", 0, "free");
        Told.due("{a: 1}", 0, "2[a,a]");
        Told.due("{a: null}", 0, "1[a,a]");
        Told.due("{a: {b: 1}}", 0, "4[a,a]");
        Told.due("{b: 5, a: 'x'}", 0, "3[a,a]");
        Told.due("{a: {$eq: true}}", 0, "6[a/$eq,a/$eq]");
        Told.due("{a: {$lt: 1}}", 0, "2(-,a/$lt)");
        Told.due("{a: {$lte: 'x'}}", 0, "3(-,a/$lte]");
        Told.due("{a: {$gt: {}}}", 0, "4(a/$gt,+)");
        Told.due("{a: {$gte: false}}", 0, "6[a/$gte,+)");
        Told.due("{a: {$lte: null}}", 0, "1[a/$lte,a/$lte]");
        Told.due("{a: {$gte: null}}", 0, "1[a/$gte,a/$gte]");
        Told.due("{a: {$gt: null}}", 0, "");
        Told.due("{a: {$lt: null}}", 0, "");
        Told.due("{a: {$lt: false}}", 0, "6(-,a/$lt)");
        Told.due("{a: {$gt: true}}", 0, "6(a/$gt,+)");
        String in = "{a: {$in: [true, {}, 'x', 5L, null, 5, 'w', false, 4]}}";
        String up = "1[a/$in/4,a/$in/4] 2[a/$in/8,a/$in/8] 2[a/$in/3,a/$in/3] "
                + "3[a/$in/6,a/$in/6] 3[a/$in/2,a/$in/2] 4[a/$in/1,a/$in/1] "
                + "6[a/$in/7,a/$in/7] 6[a/$in/0,a/$in/0]";
        Told.due(in, 0, up);
        Told.due(in, 4, up);
        String[] spans = up.split(" ");
        StringBuilder down = new StringBuilder();
        for (int i = spans.length - 1; i >= 0; i--) {
            down.append(down.length() == 0 ? "" : " ").append(spans[i]);
        }
        Told.due(in, 1, down.toString());
        Told.due(in, 5, down.toString());
        Told.due("{a: {$gt: 1, $lt: 5}}", 1, "2(a/$gt,a/$lt)");
    }

    private static void severalConditions() {
        Told.due("{a: {$gt: 1, $lt: 5}}", 0, "2(a/$gt,a/$lt)");
        Told.due("{a: {$lt: 5, $lte: 5L, $gte: 1, $gt: 1L}}", 0, "2(a/$gt,a/$lt)");
        Told.due("{a: {$lte: 5, $lt: 5L, $gt: 1, $gte: 1L}}", 0, "2(a/$gt,a/$lt)");
        Told.due("{a: {$gte: 5, $lte: 5L}}", 0, "2[a/$gte,a/$lte]");
        Told.due("{a: {$gte: 5, $eq: 5L}}", 0, "2[a/$gte,a/$eq]");
        Told.due("{a: {$eq: 5L, $gte: 5}}", 0, "2[a/$eq,a/$eq]");
        Told.due("{a: {$eq: 5L, $in: [4, 5]}}", 0, "2[a/$eq,a/$eq]");
        Told.due("{a: {$in: [4, 5, 5L], $eq: 5L}}", 0, "2[a/$in/1,a/$in/1]");
        Told.due("{a: {$in: [7, 3, 5], $gte: 5}}", 0, "2[a/$in/2,a/$in/2] 2[a/$in/0,a/$in/0]");
        Told.due("{a: {$gte: 5, $in: [7, 3, 5]}}", 0, "2[a/$gte,a/$in/2] 2[a/$in/0,a/$in/0]");
        Told.due("{a: {$in: [7, 3, 5], $gt: 5}}", 0, "2[a/$in/0,a/$in/0]");
        Told.due("{a: 5, $and: [{a: {$gte: 5}}, {a: {$lte: 5}}]}", 0, "2[a,a]");
        Told.due("{$and: [{a: {$gte: 5}}, {a: {$lte: 5}}], a: 5}", 0,
                "2[$and/0/a/$gte,$and/1/a/$lte]");
        Told.due("{$and: [{a: {$gt: 1}}, {a: {$gt: 1L}}, {a: {$gte: 1}}]}", 0,
                "2($and/0/a/$gt,+)");
        Told.due("{$and: [{a: {$gte: 1}}, {a: {$gt: 1L}}, {a: {$gt: 1}}]}", 0,
                "2($and/1/a/$gt,+)");
        Told.due("{a: {$gt: 'b', $lt: 'ba'}}", 0, "3(a/$gt,a/$lt)");
        Told.due("{a: {$gt: 'ba', $lt: 'b'}}", 0, "");
        Told.due("{a: {$ne: 3, $gt: 1, $exists: true, $size: 3, $not: {$lt: 0}}}", 0, "2(a/$gt,+)");
        Told.due("{a: {$eq: [1], $lt: 5}}", 0, "2(-,a/$lt)");
        Told.due("{a: {$gte: null, $lte: null}}", 0, "1[a/$gte,a/$gte]");
        Told.due("{a: {$gte: null, $gt: null}}", 0, "");
        Told.due("{a: {$lt: 5, $gt: 'x'}}", 0, "");
    }

    private static void elem() {
        Told.due("{a: {$elem: {$gt: 1}}}", 0, "2(a/$elem/$gt,+) 5(-,+)");
        Told.due("{a: {$elem: {$gt: 1, $lt: 5}}}", 0, "2(a/$elem/$gt,a/$elem/$lt) 5(-,+)");
        Told.due("{a: {$elem: {$eq: true}}}", 0, "5(-,+) 6[a/$elem/$eq,a/$elem/$eq]");
        Told.due("{a: {$elem: {$in: [true, 1]}}}", 0,
                "2[a/$elem/$in/1,a/$elem/$in/1] 5(-,+) 6[a/$elem/$in/0,a/$elem/$in/0]");
        Told.due("{a: {$elem: {$in: [true, 1]}}}", 1,
                "6[a/$elem/$in/0,a/$elem/$in/0] 5(-,+) 2[a/$elem/$in/1,a/$elem/$in/1]");
        Told.due("{a: {$elem: {$gt: 1, $lt: 1}}}", 0, "5(-,+)");
        Told.due("{a: {$elem: {$gt: 1}, $lt: 5}}", 0, "2(a/$elem/$gt,a/$lt)");
        Told.due("{a: {$lt: 5, $elem: {$gt: 1}}}", 0, "2(a/$elem/$gt,a/$lt)");
        Told.due("{$and: [{a: {$elem: {$eq: 1}}}, {a: {$elem: {$eq: 2}}}]}", 0, "5(-,+)");
        Told.due("{a: {$elem: {$elem: {$eq: 1}, $eq: 'x'}}}", 0,
                "3[a/$elem/$eq,a/$elem/$eq] 5(-,+)");
        Told.due("{a: {$elem: {$eq: [1], $gt: 5}}}", 0, "2(a/$elem/$gt,+) 5(-,+)");
        Told.due("{a: {$elem: {$ne: 1}}}", 0, "free");
        Told.due("{a: {$elem: {b: {$gt: 1}}}}", 0, "free");
        Told.due("{a: {$elem: {$or: [{a: 1}], a: 1}}}", 0, "free");
        Told.due("{a: {$elem: {$gt: null}}}", 0, "5(-,+)");
    }

    private static void manyKeyed() {
        Told.due("{a: {$gt: 1, $lt: 5}}", 4, "2(a/$gt,+)");
        Told.due("{a: {$lt: 5, $gt: 1}}", 4, "2(-,a/$lt)");
        Told.due("{a: {$gt: 1, $eq: 5}}", 4, "2[a/$eq,a/$eq]");
        Told.due("{a: {$gt: 1, $in: [5, 4], $eq: 5}}", 4,
                "2[a/$in/1,a/$in/1] 2[a/$in/0,a/$in/0]");
        Told.due("{a: {$eq: [1], $gt: 1, $in: [[], 1]}}", 4, "2(a/$gt,+)");
        Told.due("{a: {$elem: {$eq: 1}, $lt: 7}}", 4, "2[a/$elem/$eq,a/$elem/$eq] 5(-,+)");
        Told.due("{a: {$elem: {$eq: 1}, $lt: 7, $eq: 3}}", 4, "2[a/$eq,a/$eq]");
        Told.due("{$and: [{a: {$lt: 1}}, {a: 2}], a: 3}", 4, "2[$and/1/a,$and/1/a]");
        Told.due("{a: {$lt: 1}, $and: [{a: {$in: []}}, {a: 2}]}", 4, "");
        Told.due("{a: {$ne: 1, $size: 1, $lt: null, $gt: 1}}", 4, "");
    }

    private static void order() {
        String[] ascending = {
            "null", "-9223372036854775808L", "-2147483648", "-1L", "0", "1", "2147483647",
            "2147483648L", "9223372036854775807L", "''", "'A'", "'a'", "'a '", "'aa'", "'ab'",
            "'b'", "'\u007f'", "'\u00e9'", "'\uffff'", "'\ud83d\ude00'", "{}", "{b: null}",
            "{a: 1}", "{a: 1, b: 1}", "{a: 1, a2: 'x'}", "{a: 2}", "{aa: 0}", "{b: 0}",
            "{a: ''}", "{a: {}}", "{a: {a: 1}}", "{a: []}", "{a: [1]}", "{a: [1, 1]}", "{a: [2]}",
            "{a: false}", "{a: true}", "false", "true",
        };
        for (int i = 0; i < ascending.length; i++) {
            for (int j = 0; j < ascending.length; j++) {
                String pair = "{a: {$in: [" + ascending[i] + ", " + ascending[j] + "]}}";
                String first = "c[a/$in/0,a/$in/0]".replace("c", "" + Val.of(ascending[i]).ofClass());
                String second = "c[a/$in/1,a/$in/1]".replace("c", "" + Val.of(ascending[j]).ofClass());
                Told.due(pair, 0, i == j ? first : i < j ? first + " " + second : second + " " + first);
            }
        }
        Told.due("{a: {$in: [{b: [1, {c: 2L}]}, {b: [1L, {c: 2}]}]}}", 0, "4[a/$in/0,a/$in/0]");
        Told.due("{a: {$in: [{b: [1, {c: 2L}]}, {b: [1L, {c: 1}]}]}}", 0,
                "4[a/$in/1,a/$in/1] 4[a/$in/0,a/$in/0]");
    }

    /** Values that differ as deep as a document goes, and conditions that lie there. */
    private static void deep() {
        String open = "{x: ".repeat(12);
        String close = "}".repeat(12);
        String pair = open + "{y: 1}" + close + ", " + open + "{y: 0}" + close;
        Told.due("{a: {$in: [" + pair + "]}}", 0, "4[a/$in/1,a/$in/1] 4[a/$in/0,a/$in/0]");
        String same = open + "{y: 1}" + close + ", " + open + "{y: 1L}" + close;
        Told.due("{a: {$in: [" + same + "]}}", 0, "4[a/$in/0,a/$in/0]");
        String rows = "{x: " + "[".repeat(11) + "[2]" + "]".repeat(11) + "}, {x: "
                + "[".repeat(11) + "[1]" + "]".repeat(11) + "}";
        Told.due("{a: {$in: [" + rows + "]}}", 0, "4[a/$in/1,a/$in/1] 4[a/$in/0,a/$in/0]");
        String and = "$and/0/".repeat(7);
        Told.due("{$and: [".repeat(7) + "{a: {$gt: 1}}" + "]}".repeat(7), 0, "2(" + and + "a/$gt,+)");
    }

    private static void noneSuch() {
        BoundsPlanner x = new BoundsPlanner();
        Tape.index(x, 2, "a", "b", 0);
        Checks.due("without filter", x.end(2, 0, 0, false, 0), -2);
        Tape.filter(x, "{a: {$in: [1, 2]}}");
        Checks.due("there is one", x.end(2, 0, 1, true, 0), 2);
        int[] wrong = {-1, 4, 8, Integer.MIN_VALUE, Integer.MAX_VALUE};
        for (int n : wrong) {
            Checks.due("index " + n, x.end(n, 0, 0, false, 0), -2);
            Checks.due("path " + n, x.end(2, n, 0, false, 0), -2);
            Checks.due("interval " + n, x.end(2, 0, n, true, 0), -2);
            Checks.due("what " + n, x.end(2, 0, 0, true, n), -2);
        }
        Checks.due("interval 2", x.end(2, 0, 2, false, 0), -2);
        Checks.due("of a free path", x.end(2, 1, 0, false, 0), -2);
        Checks.due("of no index", x.end(3, 0, 0, false, 0), -2);
        Tape.filter(x, "{a: {$in: []}}");
        Checks.due("of no intervals", x.end(2, 0, 0, false, 0), -2);
    }
}
