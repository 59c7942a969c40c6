/** FAULTS of a filter, and what FILTER and CONDITIONS ask of names and values. */
public final class FaultsTest {
    public static void main(String[] args) {
        namesInAFilter();
        namesAmongConditions();
        joins();
        pathsOfAFilter();
        whatIsConditions();
        valuesOfConditions();
        elemAndNot();
        moreThanAHundred();
        whatCounts();
        countsTwo();
        firstByItsPlace();
        ofSeveralThere();
        deep();
        Checks.finish("FaultsTest");
    }

    private static void fault(int want, String... filters) {
        for (String source : filters) {
            Val document = Val.of(source);
            Checks.due("filter " + source, Tape.filter(new Planner(), document.bytes()), want);
            Checks.due("oracle " + source, Oracle.faultOf(document), want);
        }
    }

    /** The same in each place where a filter can stand. */
    private static void inAnyFilter(int want, String... elements) {
        for (String e : elements) {
            fault(want, "{" + e + "}", "{z: 1, " + e + "}", "{$and: [{}, {" + e + "}]}", "{$or: [{" + e + "}]}",
                    "{$nor: [{z: 1}, {z: 1, " + e + "}]}", "{a: {$elem: {z: 1, " + e + "}}}",
                    "{a: {$not: {$elem: {$and: [{" + e + "}]}}}}");
        }
    }

    /** The same in each place where conditions can stand. */
    private static void amongAnyConditions(int want, String... conditions) {
        for (String c : conditions) {
            fault(want, "{a: {" + c + "}}", "{a: {$ne: 1, " + c + "}}", "{$nor: [{b: 1, a: {" + c + "}}]}",
                    "{a: {$not: {" + c + "}}}", "{a: {$elem: {" + c + "}}}", "{a: {$elem: {$ne: 1, " + c + "}}}",
                    "{a: {$elem: {b: {" + c + "}}}}", "{a: {$not: {$elem: {$not: {" + c + "}}}}}");
        }
    }

    private static void namesInAFilter() {
        Checks.by("1: its name begins with $ and it is none of $and, $or, $nor in a filter");
        inAnyFilter(1, "$a: 1", "$: 1", "$eq: 1", "$not: {$eq: 1}", "$elem: {}", "$in: [1]", "$size: 1",
                "$And: [{}]", "$and.a: [{}]", "$andx: [{}]", "$an: [{}]", "$o: [{}]", "$orr: [{}]", "$no: [{}]",
                "$norr: [{}]", "$nand: [{}]", "'$and ': [{}]", "$$and: [{}]", "$OR: [{}]", "$exists: true");
        inAnyFilter(0, "$and: [{}]", "$or: [{}]", "$nor: [{}]");
    }

    private static void namesAmongConditions() {
        Checks.by("1: its name begins with $ and it is none of those above among conditions");
        amongAnyConditions(1, "$x: 1", "$: 1", "$eqx: 1", "$e: 1", "$EQ: 1", "$regex: 'x'", "$elemMatch: {}",
                "$l: 1", "$ltee: 1", "$g: 1", "$gtt: 1", "$i: []", "$inn: []", "$n: 1", "$nine: []", "$exist: true",
                "$siz: 1", "$sizes: 1", "$ele: {}", "$nott: {$eq: 1}", "$type: 1", "$$eq: 1", "'$eq ': 1");
        Checks.by("1: $and, $or, $nor are none of those above among conditions");
        for (String join : new String[] {"$and", "$or", "$nor"}) {
            fault(1, "{a: {" + join + ": [{}]}}", "{a: {$gt: 1, " + join + ": [{}]}}", "{a: {$not: {" + join + ": [{}]}}}",
                    "{a: {$elem: {$gt: 1, " + join + ": [{}]}}}");
        }
        Checks.by("1: or among conditions its name does not begin with $");
        for (String name : new String[] {"b", "''", "eq", "a$", "' $eq'", "a.b", "."}) {
            fault(1, "{a: {$gt: 1, " + name + ": 1}}", "{a: {$not: {$gt: 1, " + name + ": 1}}}",
                    "{a: {$elem: {$gt: 1, " + name + ": 1}}}", "{$and: [{a: {$gt: 1, $lt: 2, " + name + ": 1}}]}");
        }
        Checks.by("CONDITIONS, each by its name");
        amongAnyConditions(0, "$eq: 1", "$nin: []", "$in: []", "$lt: 1", "$lte: 1", "$gt: 1", "$gte: 1",
                "$exists: true", "$size: 0", "$elem: {}", "$not: {$ne: 1}");
        fault(0, "{a: {$ne: 1}}", "{a: {$not: {$ne: 1}}}", "{a: {$elem: {$ne: 1}}}");
    }

    private static void joins() {
        for (String join : new String[] {"$and", "$or", "$nor"}) {
            Checks.by("2: the value of $and, $or, $nor is not a row");
            inAnyFilter(2, join + ": 1", join + ": 1L", join + ": {}", join + ": null", join + ": 'x'", join + ": true",
                    join + ": {'0': {}}", join + ": {a: 1}");
            Checks.by("2: or has no item (a row of filters, at least one)");
            inAnyFilter(2, join + ": []");
            inAnyFilter(0, join + ": [{}]", join + ": [{}, {a: 1}, {}]");
            Checks.by("2: or an item of it (at that item's place) is no document");
            for (String item : new String[] {"1", "1L", "null", "'x'", "true", "[]", "[{}]"}) {
                inAnyFilter(2, join + ": [" + item + "]", join + ": [{}, " + item + "]", join + ": [" + item + ", {}]",
                        join + ": [{a: 1}, {}, " + item + "]");
            }
        }
    }

    private static void pathsOfAFilter() {
        Checks.by("3: a name is no path");
        inAnyFilter(3, "'': 1", ".: 1", "b.: 1", ".b: 1", "b..c: 1", "a.b.c.d.e.f.g.h.i: 1", "'': {$gt: 1}",
                "b.: {$x: 1}", ".$b: 1");
        inAnyFilter(0, "a.b.c.d.e.f.g.h: 1");
        Checks.by("3: or a step of it begins with $");
        inAnyFilter(3, "b.$c: 1", "b.$: 1", "b.$and: [{}]", "b.c.$d: {$gt: 1}", "b.$c.d: 1", "a.b.c.d.e.f.g.$h: 1");
        inAnyFilter(0, "b$: 1", "b.c$: 1", "b$c.d$e: 1", "b.c.d$: {$gt: 1}", "' $b': 1");
    }

    private static void whatIsConditions() {
        Checks.by("CONDITIONS, which is a document whose first name begins with $");
        fault(1, "{a: {$x: 1}}", "{a: {$: 1, b: 1}}");
        Checks.by("or any other value v: that is $eq v alone");
        inAnyFilter(0, "b: {}", "b: {c: 1}", "b: {c: 1, $x: 1}", "b: {'': 1, $x: 1}", "b: {c.$d: 1, '': {$x: 1}}", "b: []",
                "b: [{$x: 1}]", "b: {c: {$x: 1}}", "b: '$x'", "b: null", "b: true", "b: 1L", "b: {' $x': 1}");
        inAnyFilter(0, "b: {$eq: {$x: {$y: 1}}}", "b: {$in: [{$x: 1}, [], 1]}", "b: {$ne: {$x: 1}}", "b: {$lt: {$and: 1}}");
    }

    private static void valuesOfConditions() {
        Checks.by("4: the value of a condition is not as it has to be: $in, $nin: v is a row");
        for (String name : new String[] {"$in", "$nin"}) {
            amongAnyConditions(4, name + ": 1", name + ": 1L", name + ": {}", name + ": {'0': 1}", name + ": 'x'",
                    name + ": null", name + ": true", name + ": {$x: 1}");
            amongAnyConditions(0, name + ": []", name + ": [1]", name + ": [[], {$x: 1}, null]");
        }
        Checks.by("4: $exists: v is a truth");
        amongAnyConditions(4, "$exists: 1", "$exists: 0", "$exists: 1L", "$exists: null", "$exists: 'true'",
                "$exists: {}", "$exists: [true]");
        amongAnyConditions(0, "$exists: true", "$exists: false");
        Checks.by("4: $size: v is a number from 0 on");
        amongAnyConditions(4, "$size: -1", "$size: -1L", "$size: -2147483648", "$size: -9223372036854775808L",
                "$size: 'x'", "$size: true", "$size: false", "$size: null", "$size: {}", "$size: [1]", "$size: []");
        amongAnyConditions(0, "$size: 0", "$size: 0L", "$size: 1", "$size: 2147483647", "$size: 2147483648L",
                "$size: 9223372036854775807L");
        Checks.by("$eq, $ne, $lt, $lte, $gt, $gte: v may be any value");
        for (String name : new String[] {"$eq", "$lt", "$lte", "$gt", "$gte"}) {
            for (String v : new String[] {"1", "-1L", "'x'", "null", "true", "{}", "{$x: 1}", "[]", "[{$x: 1}]"}) {
                amongAnyConditions(0, name + ": " + v);
                fault(0, "{a: {$ne: " + v + "}}");
            }
        }
    }

    private static void elemAndNot() {
        Checks.by("4: $elem: v is a document");
        amongAnyConditions(4, "$elem: 1", "$elem: []", "$elem: [{}]", "$elem: null", "$elem: 'x'", "$elem: true");
        amongAnyConditions(0, "$elem: {}", "$elem: {$gt: 1}", "$elem: {b: 1}");
        Checks.by("$elem: if v is CONDITIONS with no $and, $or, $nor as its first name");
        fault(1, "{a: {$elem: {$x: 1}}}", "{a: {$elem: {$gt: 1, b: 1}}}", "{a: {$elem: {$gt: 1, $and: [{}]}}}",
                "{a: {$elem: {$gt: 1, $or: [{}]}}}", "{a: {$elem: {$gt: 1, $nor: [{}]}}}");
        fault(4, "{a: {$elem: {$in: 1, $and: [{}]}}}", "{a: {$elem: {$size: -1, $or: [{}]}}}",
                "{a: {$elem: {$not: {b: 1}, $nor: [{}]}}}");
        Checks.by("$elem: otherwise v is a filter");
        fault(0, "{a: {$elem: {$and: [{}]}}}", "{a: {$elem: {$or: [{b: 1}], b: 1}}}",
                "{a: {$elem: {$nor: [{}], $and: [{}]}}}", "{a: {$elem: {b: 1, $and: [{}]}}}");
        fault(1, "{a: {$elem: {$and: [{}], $gt: 1}}}", "{a: {$elem: {b: 1, $gt: 1}}}", "{a: {$elem: {$or: [{}], $eq: 1}}}");
        fault(2, "{a: {$elem: {$and: []}}}", "{a: {$elem: {$or: 1}}}", "{a: {$elem: {$nor: [1]}}}");
        fault(3, "{a: {$elem: {'': 1}}}", "{a: {$elem: {b.$c: 1}}}", "{a: {$elem: {$and: [{}], c.: 1}}}");
        Checks.by("4: $not: v is CONDITIONS");
        amongAnyConditions(4, "$not: 1", "$not: null", "$not: 'x'", "$not: true", "$not: []", "$not: [{$gt: 1}]",
                "$not: {}", "$not: {b: 1}", "$not: {b: 1, $gt: 1}", "$not: {'': 1}");
        amongAnyConditions(0, "$not: {$gt: 1}", "$not: {$gt: 1, $lt: 5}", "$not: {$not: {$not: {$size: 1}}}");
    }

    /** So many paths, each with this value, and something behind them. */
    static String paths(int count, String value, String behind) {
        StringBuilder out = new StringBuilder("{");
        for (int i = 0; i < count; i++) {
            out.append(i == 0 ? "" : ", ").append("p").append(i).append(": ").append(value);
        }
        return out.append(behind).append("}").toString();
    }

    private static void moreThanAHundred() {
        Checks.by("5: there would be more than 100 elements of filters and conditions");
        fault(0, paths(50, "{$gt: 1}", ""));
        fault(5, paths(51, "{$gt: 1}", ""));
        fault(0, paths(49, "{$gt: 1}", ", b: {$lt: 1}"));
        fault(5, paths(50, "{$gt: 1}", ", $and: [{}]"));
        fault(0, paths(33, "{$gt: 1, $lt: 1}", ", $and: [{}]"));
        fault(5, paths(33, "{$gt: 1, $lt: 1}", ", $and: [{}], $or: [{}]"));
        fault(5, paths(33, "{$gt: 1, $lt: 1}", ", $and: [{}, {$or: [{}]}]"));
        fault(0, "{a: {$elem: " + paths(49, "1", "") + "}}");
        fault(5, "{a: {$elem: " + paths(50, "1", "") + "}}");
        fault(0, "{$or: [" + paths(49, "1", "") + "], $nor: [{}]}");
        fault(5, "{$or: [" + paths(49, "1", "") + "], $nor: [{$and: [{}]}]}");
    }

    private static void whatCounts() {
        Checks.by("5: elements of filters: those in $and, $or, $nor and under $elem, too");
        for (String join : new String[] {"$and", "$or", "$nor"}) {
            fault(0, paths(48, "1", ", " + join + ": [{a: {$gt: 1, $lt: 1}}]"));
            fault(5, paths(48, "1", ", " + join + ": [{a: {$gt: 1, $lt: 1, $eq: 1}}]"));
            fault(0, paths(48, "1", ", " + join + ": [{" + join + ": [{c: 1}]}]"));
            fault(5, paths(48, "1", ", " + join + ": [{" + join + ": [{c: 1}, {c: 1}]}]"));
        }
        fault(0, paths(48, "1", ", b: {$elem: {c: 1}}"));
        fault(5, paths(48, "1", ", b: {$elem: {c: {$gt: 1, $lt: 1}}}"));
        Checks.by("5: elements of conditions: those under $elem and $not, too");
        for (String name : new String[] {"$elem", "$not"}) {
            fault(0, paths(48, "1", ", b: {" + name + ": {$eq: 1, $gt: 1}}"));
            fault(5, paths(48, "1", ", b: {" + name + ": {$eq: 1, $gt: 1, $lt: 1}}"));
        }
        Checks.by("5: items, and elements of other values, do not count");
        fault(0, paths(49, "1", ", $and: [{}, {}, {}, {}, {}]"));
        fault(0, paths(49, "1", ", b: {$in: [1, 2, 3, {c: 1, d: 2}]}"));
        fault(0, paths(49, "1", ", b: {$eq: {x: {$gt: 1, $b: 1}, y: 1}}"));
        fault(0, paths(49, "1", ", b: {x: {$gt: 1, $b: 1}, y: 1}"));
        fault(0, paths(49, "1", ", b: [1, {$gt: 1, $b: 1}, {y: 1}]"));
    }

    private static void countsTwo() {
        Checks.by("5: (each $eq by a value alone is one of both, so it counts two)");
        fault(0, paths(50, "1", ""));
        fault(5, paths(51, "1", ""));
        fault(0, paths(49, "1", ", b: {}"));
        fault(0, paths(49, "1", ", b: {$gt: 1}"));
        fault(5, paths(49, "1", ", b: {$gt: 1, $lt: 1}"));
        fault(5, paths(33, "{$gt: 1, $lt: 1}", ", b: {}"));
        fault(5, paths(33, "{$gt: 1, $lt: 1}", ", b: 1"));
        fault(5, paths(50, "[]", ", $and: [{}]"));
        fault(0, "{$and: [{a: {$gt: 1}}, " + paths(48, "null", "") + "], $or: [{}]}");
        fault(5, "{$and: [{a: {$gt: 1}}, " + paths(49, "null", "") + "]}");
    }

    private static void firstByItsPlace() {
        Checks.by("FAULTS of a filter, the first one by its PLACE, the byte where an element's kind stands");
        fault(4, "{$and: [{a: {$in: 1}}, 1], $x: 1}", "{a: {$gt: 1, $in: 1}, $x: 1}", "{a: {$not: 1, $x: 1}}",
                "{a: {$in: {$x: 1}}}", "{a: {$in: 1, $x: 1}, '': 1, $and: 1}");
        fault(2, "{$and: [1, {a: {$in: 1}}], $x: 1}", "{a: {$not: {$elem: {$or: [{}, 1]}, $x: 1}}}",
                "{$or: {'0': {$x: 1}}}", "{$and: 1, $x: 1}", "{$and: [], '': 1}", "{$nor: [{$or: [{}, {}, []]}, {'': 1}]}");
        fault(3, "{a: {$elem: {'': 1}, $x: 1}}", "{'': {$x: 1}}", "{a.$b: {$x: 1}}", "{$or: [{a: 1}, {b.: 1}], $and: 1}",
                "{'': 1, $x: 1}", "{$and: [{'': 1}, 1]}", "{'': {$in: 1}}");
        fault(1, "{a: {$x: 1}, '': 1}", "{$x: 1, '': 1}", "{$and: [{$x: 1}, 1]}", "{a: {b: 1}, $x: 1, $and: []}",
                "{a: {$elem: {$x: 1}, $in: 1}}", "{$x: {$y: 1}, a: {$in: 1}}");
        Checks.by("the first one by its PLACE: the one at which there would be more than 100");
        fault(5, paths(50, "1", ", b: 1, $x: 1"), paths(50, "1", ", b: {$x: 1}"), paths(50, "1", ", $and: [1]"),
                paths(50, "1", ", b: {$gt: 1}, '': 1"), paths(49, "1", ", b: {$gt: 1, $lt: 1, $x: 1}"),
                paths(48, "1", ", b: {$elem: {c: 1, d: {$x: 1}}}"));
        fault(1, paths(49, "1", ", $x: 1, b: 1, c: 1"), paths(49, "1", ", b: {$gt: 1, $x: 1, $lt: 1}"));
        fault(2, paths(49, "1", ", $and: [{}, {}, 1, {a: 1}]"));
        fault(4, paths(49, "1", ", b: {$size: -1, $eq: 1}"));
    }

    private static void ofSeveralThere() {
        Checks.by("of several there the first of these: 1 before 3");
        inAnyFilter(1, "$x..b: 1", "$x.: 1", "$x.$y: 1", "$a.b.c.d.e.f.g.h.i: 1", "$.: 1");
        Checks.by("of several there the first of these: 1 before 5");
        fault(1, paths(50, "1", ", $x: 1"), paths(49, "1", ", b: {$in: [1], c: -1}"),
                paths(49, "1", ", b: {$in: [1], $x: -1}"), paths(49, "1", ", b: {$in: [1], $and: [{}]}"));
        Checks.by("of several there the first of these: 2 before 5");
        fault(2, paths(50, "1", ", $and: []"), paths(50, "1", ", $or: 1"), paths(50, "1", ", $nor: {}"));
        Checks.by("of several there the first of these: 3 before 5");
        fault(3, paths(50, "1", ", '': 1"), paths(50, "1", ", a.$b: {$gt: 1}"), paths(33, "{$gt: 1, $lt: 1}", ", a.: 1"));
        Checks.by("of several there the first of these: 4 before 5");
        fault(4, paths(49, "1", ", b: {$in: [1], $size: -1}"), paths(49, "1", ", b: {$in: [1], $not: 1}"),
                paths(49, "1", ", b: {$in: [1], $elem: []}"));
    }

    private static void deep() {
        Checks.by("FAULTS of a filter: as deep as a document goes");
        for (String last : new String[] {"{$gt: 1}", "{$x: 1}"}) {
            int want = last.equals("{$gt: 1}") ? 0 : 1;
            fault(want, "{a: " + "{$not: ".repeat(14) + last + "}".repeat(15),
                    "{a: " + "{$elem: ".repeat(14) + last + "}".repeat(15),
                    "{a: " + "{$elem: {b: ".repeat(7) + last + "}}".repeat(7) + "}",
                    "{$and: [".repeat(7) + "{a: " + last + "}" + "]}".repeat(7),
                    "{$or: [{$nor: [".repeat(3) + "{a: {$not: " + last + "}}" + "]}]}".repeat(3));
        }
        String tooDeep = "{a: " + "{$not: ".repeat(15) + "{$gt: 1}" + "}".repeat(16);
        Checks.due(tooDeep, Tape.filter(new Planner(), tooDeep), -1);
    }
}
