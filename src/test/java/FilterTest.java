/** Promise 5: filter, and its faults. */
public final class FilterTest {
    public static void main(String[] args) {
        answersAndState();
        rightOnes();
        fault1();
        fault2();
        fault3();
        fault4();
        fault5();
        firstByPlace();
        deep();
        Checks.finish("FilterTest");
    }

    private static void fault(String source, int want) {
        fault(source, want, want);
    }

    private static void answersAndState() {
        BoundsPlanner x = new BoundsPlanner();
        Tape.index(x, 0, "a", "", 0);
        Checks.due("filter", Tape.filter(x, "{a: 1}"), 0);
        Checks.due("the tape is empty", x.filter(1), -2);
        Checks.due("below 0", x.filter(-1), -2);
        Checks.due("least", x.filter(Integer.MIN_VALUE), -2);
        Checks.due("greatest", x.filter(Integer.MAX_VALUE), -2);
        Checks.due("the filter stays behind -2", x.choose(), 0);
        x.feed(0x05000000, 0, 0, 0, 0);
        Checks.due("more than there are", x.filter(21), -2);
        Checks.due("the tape stays behind -2", x.filter(5), 0);
        Checks.due("a filter without elements leaves all", x.many(0, 0), -1);
        Checks.due("and chooses none", x.choose(), -1);
        Tape.filter(x, "{a: 1}");
        Checks.due("no bytes", x.filter(0), -1);
        Checks.due("no filter behind -1", x.choose(), -2);
        Tape.filter(x, "{a: 1}");
        Checks.due("a fault", Tape.filter(x, "{$a: 1}"), 1);
        Checks.due("no filter behind a fault", x.choose(), -2);
        Checks.due("no rank behind a fault", x.rank(0), -1);
        x.feed(0x05000000, 0, 0, 0, 0);
        Checks.due("not just that document", x.filter(6), -1);
        Checks.due("the tape is empty behind -1", x.feed(0, 0, 0, 0, 0), 20);
    }

    private static void rightOnes() {
        String[] right = {
            "{}", "{a: 1}", "{a: {}}", "{a: []}", "{a: [{$x: 1}]}", "{a: {b: 1, $gt: 1}}",
            "{a: {'': 1, $b: 1}}", "{a.b.c.d.e.f.g.h: 1}", "{a: {$eq: {$x: {$y: 1}}}}",
            "{a: {$in: [{$x: 1}, [], 1]}}", "{a: {$in: []}}", "{a: {$nin: []}}",
            "{a: {$ne: {$x: 1}}}", "{a: {$gt: [1], $lt: {}, $gte: null, $lte: true}}",
            "{a: {$exists: true}}", "{a: {$exists: false}}", "{a: {$size: 0}}", "{a: {$size: 5L}}",
            "{a: {$elem: {}}}", "{a: {$elem: {b: 1, c.d: {$gt: 1}}}}", "{a: {$elem: {$gt: 1}}}",
            "{a: {$elem: {$and: [{}], b: 1, $or: [{}], $nor: [{}]}}}",
            "{a: {$elem: {b: 1, $and: [{}]}}}", "{a: {$elem: {$elem: {$elem: {$not: {$eq: 1}}}}}}",
            "{a: {$elem: {$or: [{x: 1}]}}}", "{a: {$elem: {$nor: [{x: 1}]}}}",
            "{a: {$not: {$gt: 1}}}", "{a: {$not: {$not: {$not: {$size: 1}}}}}",
            "{$and: [{}]}", "{$or: [{}, {a: 1}]}", "{$nor: [{$and: [{$or: [{a: 1}]}]}]}",
            "{a$: 1, a.b$: 1, a: {$eq: 1}}", "{a: {$not: {$elem: {b: {$eq: 1}}}}}",
        };
        for (String source : right) {
            fault(source, 0);
        }
    }

    private static void fault1() {
        String[] wrong = {
            "{$a: 1}", "{$: 1}", "{$eq: 1}", "{$not: {$eq: 1}}", "{$elem: {}}", "{$And: [{}]}",
            "{$and.a: [{}]}", "{$andx: [{}]}", "{$an: [{}]}", "{a: {$x: 1}}", "{a: {$: 1}}",
            "{a: {$and: [{}]}}", "{a: {$or: [{}]}}", "{a: {$nor: [{}]}}", "{a: {$gt: 1, b: 1}}",
            "{a: {$gt: 1, '': 1}}", "{a: {$gt: 1, $and: [{}]}}", "{a: {$eqx: 1}}", "{a: {$e: 1}}",
            "{a: {$elem: {$x: 1}}}", "{a: {$elem: {$gt: 1, $and: [{}]}}}",
            "{a: {$elem: {$and: [{}], $gt: 1}}}", "{a: {$elem: {b: 1, $gt: 1}}}",
            "{a: {$elem: {$gt: 1, b: 1}}}", "{a: {$not: {$and: [{}]}}}", "{a: {$not: {$x: 1}}}",
            "{a: {$not: {$gt: 1, b: 1}}}", "{$and: [{$x: 1}]}", "{$or: [{a: 1}, {$lt: 1}]}",
            "{a: {$regex: 'x'}}", "{a: {$EQ: 1}}", "{$size: 1}",
        };
        for (String source : wrong) {
            fault(source, 1);
        }
    }

    private static void fault2() {
        String[] wrong = {
            "{$and: 1}", "{$and: {}}", "{$and: []}", "{$or: null}", "{$or: {'0': {}}}",
            "{$or: []}", "{$nor: 'x'}", "{$nor: []}", "{$and: [1]}", "{$and: [{}, []]}",
            "{$or: [{}, null]}", "{$and: [{$or: [{$nor: []}]}]}", "{a: {$elem: {$and: []}}}",
            "{a: {$elem: {b: 1, $or: [1]}}}", "{$nor: [[{}]]}",
        };
        for (String source : wrong) {
            fault(source, 2);
        }
    }

    private static void fault3() {
        String[] wrong = {
            "{'': 1}", "{.: 1}", "{a.: 1}", "{.a: 1}", "{a..b: 1}", "{a.$b: 1}", "{a.$: 1}",
            "{a.b.c.d.e.f.g.h.i: 1}", "{$and: [{a.$b: 1}]}", "{a: {$elem: {b.$c: 1}}}",
            "{a: {$elem: {'': {$gt: 1}}}}", "{a.$and: [{}]}", "{a: 1, '': {$x: 1}}",
        };
        for (String source : wrong) {
            fault(source, 3);
        }
    }

    private static void fault4() {
        String[] wrong = {
            "{a: {$in: 1}}", "{a: {$in: {}}}", "{a: {$nin: 'x'}}", "{a: {$nin: null}}",
            "{a: {$exists: 1}}", "{a: {$exists: null}}", "{a: {$size: -1}}", "{a: {$size: -1L}}",
            "{a: {$size: 'x'}}", "{a: {$size: true}}", "{a: {$size: null}}", "{a: {$elem: []}}",
            "{a: {$elem: 1}}", "{a: {$not: 1}}", "{a: {$not: {}}}", "{a: {$not: {b: 1}}}",
            "{a: {$not: [{$gt: 1}]}}", "{a: {$not: {b: 1, $gt: 1}}}",
            "{a: {$not: {$size: -5}}}", "{a: {$elem: {$in: 1}}}", "{a: {$elem: {b: {$in: 1}}}}",
            "{$or: [{a: {$exists: 0}}]}",
        };
        for (String source : wrong) {
            fault(source, 4);
        }
    }

    private static void fault5() {
        fault(many(50, "1", ""), 0);
        fault(many(51, "1", ""), 5);
        fault(many(50, "1", ", b: {$x: 1}"), 5);
        fault(many(50, "1", ", $x: 1"), 1);
        fault(many(50, "1", ", $and: []"), 2);
        fault(many(50, "1", ", $and: [1]"), 5);
        fault(many(50, "1", ", '': 1"), 3);
        fault(many(49, "1", ", b: {$in: 1}"), 4);
        fault(many(49, "1", ", b: {$in: []}"), 0);
        fault(many(49, "1", ", b: {$in: [1], $eq: 1}"), 5);
        fault(many(49, "1", ", b: {$in: [1], $size: -1}"), 4);
        fault(many(49, "1", ", b: {$in: [1], c: -1}"), 1);
        fault(many(49, "1", ", $and: [{}, {}, {}, {}]"), 0);
        fault(many(49, "1", ", $and: [{}, {}, {a: 1}]"), 5);
        fault(many(49, "1", ", $and: [{}, {}, 1, {a: 1}]"), 2);
        fault(many(48, "1", ", $or: [{}, {a: {$gt: 1, $lt: 1}}]"), 0);
        fault(many(48, "1", ", $or: [{}, {a: {$gt: 1, $lt: 1, $eq: 1}}]"), 5);
        fault(many(48, "1", ", b: {$not: {$eq: 1, $gt: 1}}"), 0);
        fault(many(48, "1", ", b: {$not: {$eq: 1, $gt: 1, $lt: 1}}"), 5);
        fault(many(48, "1", ", b: {$elem: {c: 1}}"), 0);
        fault(many(48, "1", ", b: {$elem: {c: 1, d: {$x: 1}}}"), 5);
        fault(many(33, "{$gt: 1, $lt: 1}", ", b: {}"), 5);
        fault(many(33, "{$gt: 1, $lt: 1}", ""), 0);
        fault(many(49, "1", ", b: {x: {$gt: 1, $b: 1}, y: 1}"), 0);
    }

    private static String many(int count, String value, String behind) {
        StringBuilder out = new StringBuilder("{");
        for (int i = 0; i < count; i++) {
            out.append(i == 0 ? "" : ", ").append("p").append(i).append(": ").append(value);
        }
        return out.append(behind).append("}").toString();
    }

    private static void firstByPlace() {
        fault("{$and: [{a: {$in: 1}}, 1], $x: 1}", 4);
        fault("{$and: [1, {a: {$in: 1}}], $x: 1}", 2);
        fault("{a: {$gt: 1, $in: 1}, $x: 1}", 4);
        fault("{a: {$elem: {'': 1}, $x: 1}}", 3);
        fault("{a: {$x: 1}, '': 1}", 1);
        fault("{'': {$x: 1}}", 3);
        fault("{a.$b: {$x: 1}}", 3);
        fault("{a: {$not: 1, $x: 1}}", 4);
        fault("{a: {$not: {$elem: {$or: [{}, 1]}, $x: 1}}}", 2);
        fault("{$or: [{a: 1}, {b.: 1}], $and: 1}", 3);
        fault("{$or: {'0': {$x: 1}}}", 2);
        fault("{a: {$in: {$x: 1}}}", 4);
    }

    /** The faults and right ones that lie as deep as a document goes. */
    private static void deep() {
        for (String last : new String[] {"{$gt: 1}", "{$x: 1}"}) {
            int want = last.equals("{$gt: 1}") ? 0 : 1;
            fault("{a: " + "{$not: ".repeat(14) + last + "}".repeat(15), want);
            fault("{a: " + "{$elem: ".repeat(14) + last + "}".repeat(15), want);
            fault("{a: " + "{$elem: {b: ".repeat(7) + last + "}}".repeat(7) + "}", want);
            fault("{$and: [".repeat(7) + "{a: " + last + "}" + "]}".repeat(7), want);
            fault("{$or: [{$nor: [".repeat(3) + "{a: {$not: " + last + "}}" + "]}]}".repeat(3), want);
        }
        fault("{a: " + "{$not: ".repeat(15) + "{$gt: 1}" + "}".repeat(16), 0, -1);
    }

    private static void fault(String source, int want, int answered) {
        Val document = Val.of(source);
        Checks.due("filter " + source, Tape.filter(new BoundsPlanner(), document.bytes()), answered);
        Checks.due("oracle " + source, Oracle.faultOf(document), want);
    }
}
