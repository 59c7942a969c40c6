/** BOUNDS of a condition and of a path of an index. */
public final class BoundsTest {
    private static final String[] COMPARISONS = {"$lt", "$lte", "$gt", "$gte"};

    public static void main(String[] args) {
        eqAndIn();
        comparisons();
        withNothing();
        elem();
        otherConditions();
        noneAndNoValue();
        justThisPath();
        inAnAnd();
        inTheOrderOfTheirPlaces();
        notManyKeyed();
        manyKeyed();
        Checks.finish("BoundsTest");
    }

    private static void eqAndIn() {
        Checks.by("$eq: v");
        for (String v : new String[] {"1", "1L", "'x'", "null", "true", "{}", "{b: [1]}", "{b: 1, $x: 1}"}) {
            int c = Val.of(v).ofClass();
            Told.due("{a: " + v + "}", c + "[a,a]");
            Told.due("{a: {$eq: " + v + "}}", c + "[a/$eq,a/$eq]");
        }
        Checks.by("$eq: none when v is a row.");
        for (String row : new String[] {"[]", "[1]", "[[]]", "[{$gt: 1}]"}) {
            Told.due("{a: " + row + "}", "free");
            Told.due("{a: {$eq: " + row + "}}", "free");
        }
        Checks.by("$in: its items");
        Told.due("{a: {$in: [1]}}", "2[a/$in/0,a/$in/0]");
        Told.due("{a: {$in: [1, 'x', {b: []}]}}", "2[a/$in/0,a/$in/0] 3[a/$in/1,a/$in/1] 4[a/$in/2,a/$in/2]");
        Checks.by("$in: its items: a row without items bounds, and has no value");
        Told.due("{a: {$in: []}}", "");
        Checks.by("$in: none when one of them is a row.");
        for (String items : new String[] {"[]", "[], 1", "1, []", "1, [2], 3", "null, [[]]", "1, 2, 3, [1]"}) {
            Told.due("{a: {$in: [" + items + "]}}", "free");
            Told.dueManyKeyed("{a: {$in: [" + items + "]}}", "free");
        }
    }

    private static void comparisons() {
        Checks.by("$lt, $lte, $gt, $gte: all values of v's class that are less than v, not greater, "
                + "greater, not less");
        for (String v : new String[] {"1", "1L", "'x'", "true", "false", "{}", "{b: [1]}", "''"}) {
            int c = Val.of(v).ofClass();
            Told.due("{a: {$lt: " + v + "}}", c + "(-,a/$lt)");
            Told.due("{a: {$lte: " + v + "}}", c + "(-,a/$lte]");
            Told.due("{a: {$gt: " + v + "}}", c + "(a/$gt,+)");
            Told.due("{a: {$gte: " + v + "}}", c + "[a/$gte,+)");
        }
        Checks.by("$lt, $lte, $gt, $gte: none when v is a row.");
        for (String name : COMPARISONS) {
            Told.due("{a: {" + name + ": []}}", "free");
            Told.due("{a: {" + name + ": [1, 2]}}", "free");
            Told.due("{a: {" + name + ": [1], $eq: 5}}", "2[a/$eq,a/$eq]");
        }
    }

    private static void withNothing() {
        Checks.by("(with NOTHING: $lt, $gt no value at all");
        Told.due("{a: {$lt: null}}", "");
        Told.due("{a: {$gt: null}}", "");
        Told.dueManyKeyed("{a: {$lt: null}}", "");
        Told.due("{a: {$gte: null, $gt: null}}", "");
        Checks.by("with NOTHING: $lte, $gte NOTHING)");
        Told.due("{a: {$lte: null}}", "1[a/$lte,a/$lte]");
        Told.due("{a: {$gte: null}}", "1[a/$gte,a/$gte]");
        Told.due("{a: {$gte: null, $lte: null, $eq: null}}", "1[a/$gte,a/$gte]");
    }

    private static void elem() {
        String first = "a/$elem/";
        Checks.by("$elem, when its value is conditions: what is in the bounds of all its conditions "
                + "with these six names that have bounds");
        Told.due("{a: {$elem: {$gt: 1, $lt: 5}}}", "2(" + first + "$gt," + first + "$lt) 5(-,+)");
        Told.due("{a: {$elem: {$eq: 3}}}", "2[" + first + "$eq," + first + "$eq] 5(-,+)");
        Told.due("{a: {$elem: {$gte: 1}}}", "2[" + first + "$gte,+) 5(-,+)");
        Told.due("{a: {$elem: {$lte: 1}}}", "2(-," + first + "$lte] 5(-,+)");
        Told.due("{a: {$elem: {$in: [7, 3, 5], $gt: 3}}}", "2[" + first + "$in/2," + first + "$in/2] 2["
                + first + "$in/0," + first + "$in/0] 5(-,+)");
        Told.due("{a: {$elem: {$eq: [1], $gt: 5, $size: 1, $ne: 7, $elem: {$eq: 8}}}}", "2(" + first + "$gt,+) 5(-,+)");
        Checks.by("$elem: and besides all rows");
        Told.due("{a: {$elem: {$eq: null}}}", "1[" + first + "$eq," + first + "$eq] 5(-,+)");
        Told.due("{a: {$elem: {$eq: {}}}}", "4[" + first + "$eq," + first + "$eq] 5(-,+)");
        Told.due("{a: {$elem: {$lt: true}}}", "5(-,+) 6(-," + first + "$lt)");
        Told.due("{a: {$elem: {$in: [true, false, 1]}}}", "2[" + first + "$in/2," + first + "$in/2] 5(-,+) 6["
                + first + "$in/1," + first + "$in/1] 6[" + first + "$in/0," + first + "$in/0]");
        Checks.by("$elem: and besides all rows, when no value is in its bounds");
        Told.due("{a: {$elem: {$gt: 1, $lt: 1}}}", "5(-,+)");
        Told.due("{a: {$elem: {$in: []}}}", "5(-,+)");
        Told.due("{a: {$elem: {$gt: null}}}", "5(-,+)");
        Told.due("{a: {$elem: {$eq: 1, $lt: 'x'}}}", "5(-,+)");
        Checks.by("$elem: none when none of them has bounds.");
        for (String c : new String[] {"$ne: 1", "$eq: [1]", "$in: [1, []]", "$gt: []", "$nin: [1]", "$exists: true",
            "$size: 1", "$not: {$eq: 1}", "$elem: {$eq: 1}", "$ne: 1, $lt: [1]"}) {
            Told.due("{a: {$elem: {" + c + "}}}", "free");
        }
        Checks.by("$elem, when its value is conditions (as said above): a filter has none");
        for (String f : new String[] {"", "a: 1", "b: {$gt: 1}", "$and: [{a: 1}]", "$or: [{a: 1}], a: 1", "$nor: [{}]"}) {
            Told.due("{a: {$elem: {" + f + "}}}", "free");
        }
    }

    private static void otherConditions() {
        Checks.by("Other conditions have none.");
        for (String c : new String[] {"$ne: 1", "$ne: null", "$nin: []", "$nin: [1]", "$exists: true", "$exists: false",
            "$size: 0", "$not: {$eq: 1}", "$not: {$gt: 1, $lt: 5}", "$not: {$not: {$eq: 1}}"}) {
            Told.due("{a: {" + c + "}}", "free");
            Told.dueManyKeyed("{a: {" + c + "}}", "free");
            Told.due("{a: {" + c + ", $lt: 5}}", "2(-,a/$lt)");
        }
    }

    private static void noneAndNoValue() {
        Checks.by("(None is: it does not bound. No value at all is: it bounds.)");
        Told.due("{a: {$in: [[]], $eq: 1}}", "2[a/$eq,a/$eq]");
        Told.due("{a: {$in: [], $eq: 1}}", "");
        Told.due("{a: {$eq: 1, $lt: null}}", "");
        Told.due("{a: {$eq: 1, $lt: []}}", "2[a/$eq,a/$eq]");
        Told.due("{a: {$elem: {$in: [], $eq: 1}}}", "5(-,+)");
        Told.due("{a: {$elem: {$in: [[]], $eq: 1}}}", "2[a/$elem/$eq,a/$elem/$eq] 5(-,+)");
        Told.dueManyKeyed("{a: {$in: [], $eq: 1}}", "");
        Told.dueManyKeyed("{a: {$in: [[]], $eq: 1}}", "2[a/$eq,a/$eq]");
    }

    private static void justThisPath() {
        Checks.by("the elements that say something of it are those of the filter with just this path as name");
        for (String name : new String[] {"A", "aa", "a.a", "a.b", "b.a", "'a '", "b", "\u00e1"}) {
            Told.due("{" + name + ": 1}", "free");
            Told.due("{" + name + ": 1, a: 2}", "2[a,a]");
        }
        String[] paths = {"a.b", "a", "ab", "a.b.c", "a.0", "\u00e9.b", "a.b.c.d.e.f.g.h"};
        for (String path : paths) {
            Planner x = new Planner();
            for (int i = 0; i < paths.length; i++) {
                Tape.index(x, i, paths[i], "", 0);
            }
            Tape.filter(x, new Val(3).with(path, Val.whole(1)).bytes());
            for (int i = 0; i < paths.length; i++) {
                Checks.due(paths[i] + " by " + path, x.many(i, 0), paths[i].equals(path) ? 1 : -1);
            }
        }
        Checks.by("If none has bounds the path is FREE.");
        Told.due("{}", "free");
        Told.due("{a: [], $and: [{a: {$ne: 1}}, {a: {$size: 1}}]}", "free");
    }

    private static void inAnAnd() {
        Checks.by("and likewise those of the filters in a $and of it, in a $and of these, and so on");
        for (int depth = 1; depth <= 7; depth++) {
            Told.due("{$and: [".repeat(depth) + "{a: {$gt: 1}}" + "]}".repeat(depth),
                    "2(" + "$and/0/".repeat(depth) + "a/$gt,+)");
            Told.due("{$and: [".repeat(depth) + "{a: 1}" + "]}".repeat(depth),
                    "2[" + "$and/0/".repeat(depth) + "a," + "$and/0/".repeat(depth) + "a]");
        }
        Told.due("{$and: [{}, {b: 1}, {b: 1, a: {$gt: 1}}, {$and: [{}, {a: {$lt: 5}}]}]}",
                "2($and/2/a/$gt,$and/3/$and/1/a/$lt)");
        Checks.by("in a $and: and in no $or or $nor");
        for (String join : new String[] {"$or", "$nor"}) {
            Told.due("{" + join + ": [{a: 1}]}", "free");
            Told.due("{" + join + ": [{a: 1}, {a: 1}]}", "free");
            Told.due("{$and: [{" + join + ": [{a: 1}]}]}", "free");
            Told.due("{" + join + ": [{$and: [{a: 1}]}]}", "free");
            Told.due("{" + join + ": [{a: 1}], a: {$lt: 5}}", "2(-,a/$lt)");
        }
        Checks.by("in a $and: and not under $elem or $not");
        Told.due("{b: {$elem: {a: 1}}}", "free");
        Told.due("{b: {$elem: {$and: [{a: 1}]}}}", "free");
        Told.due("{b: {$elem: {a: 1}, $gt: 1}, a: {$not: {$elem: {a: 1}}}}", "free");
    }

    private static void inTheOrderOfTheirPlaces() {
        Checks.by("in the order of their places; their conditions ($eq with a value alone) in that order");
        Told.due("{a: 5, $and: [{a: 5L}]}", "2[a,a]");
        Told.due("{$and: [{a: 5L}], a: 5}", "2[$and/0/a,$and/0/a]");
        Told.due("{$and: [{$and: [{a: 5}]}, {a: 5}], a: 5}", "2[$and/0/$and/0/a,$and/0/$and/0/a]");
        Told.due("{$and: [{a: 5}, {$and: [{a: 5}]}], a: 5}", "2[$and/0/a,$and/0/a]");
        Told.due("{$and: [{b: 1}, {a: {$gte: 5}}], a: {$gte: 5, $lt: 9}}", "2[$and/1/a/$gte,a/$lt)");
        Told.due("{a: {$gte: 5, $eq: 5}}", "2[a/$gte,a/$eq]");
        Told.due("{a: {$eq: 5, $gte: 5}}", "2[a/$eq,a/$eq]");
        Told.dueManyKeyed("{$and: [{a: {$lt: 1}}, {a: 2}], a: 3}", "2[$and/1/a,$and/1/a]");
        Told.dueManyKeyed("{a: 3, $and: [{a: {$lt: 1}}, {a: 2}]}", "2[a,a]");
        Told.dueManyKeyed("{a: {$lt: 1}, $and: [{a: {$gt: 2}}]}", "2(-,a/$lt)");
        Told.dueManyKeyed("{$and: [{a: {$gt: 2}}], a: {$lt: 1}}", "2($and/0/a/$gt,+)");
    }

    private static void notManyKeyed() {
        Checks.by("If it is not MANY-KEYED, its bounds are what is in the bounds of all that have some.");
        Told.due("{a: {$gt: 1, $lt: 5}}", "2(a/$gt,a/$lt)");
        Told.due("{a: {$gt: 1, $lt: 5, $in: [1, 2, 5, 4]}}", "2[a/$in/1,a/$in/1] 2[a/$in/3,a/$in/3]");
        Told.due("{a: {$gt: 1, $ne: 3, $lt: [], $size: 4, $lte: 4}}", "2(a/$gt,a/$lte]");
        Told.due("{a: 1, $and: [{a: 2}]}", "");
        Told.due("{a: {$elem: {$gt: 1}, $lt: 5}}", "2(a/$elem/$gt,a/$lt)");
        Told.due("{$and: [{a: {$elem: {$eq: 1}}}, {a: {$elem: {$eq: 2}}}]}", "5(-,+)");
        Told.due("{$and: [{a: {$elem: {$eq: 1}}}, {a: {$elem: {$lt: 2}}}]}", "2[$and/0/a/$elem/$eq,$and/0/a/$elem/$eq] 5(-,+)");
    }

    private static void manyKeyed() {
        Checks.by("If it is, its bounds are those of the first $eq or $in that has bounds");
        Told.dueManyKeyed("{a: {$gt: 1, $eq: 5}}", "2[a/$eq,a/$eq]");
        Told.dueManyKeyed("{a: {$gt: 1, $in: [5, 4], $eq: 5}}", "2[a/$in/1,a/$in/1] 2[a/$in/0,a/$in/0]");
        Told.dueManyKeyed("{a: {$gt: 1, $eq: 5, $in: [5, 4]}}", "2[a/$eq,a/$eq]");
        Told.dueManyKeyed("{a: {$in: [5, 4], $gt: 4}}", "2[a/$in/1,a/$in/1] 2[a/$in/0,a/$in/0]");
        Told.dueManyKeyed("{a: {$gt: 1}, $and: [{a: {$lt: 9}}, {$and: [{a: 7}]}]}", "2[$and/1/$and/0/a,$and/1/$and/0/a]");
        Checks.by("MANY-KEYED: the first $eq or $in that has bounds, and not one that has none");
        Told.dueManyKeyed("{a: {$eq: [1], $in: [[]], $gt: 1}}", "2(a/$gt,+)");
        Told.dueManyKeyed("{a: {$eq: [1], $gt: 1, $in: [3]}}", "2[a/$in/0,a/$in/0]");
        Told.dueManyKeyed("{a: [1], $and: [{a: 4}]}", "2[$and/0/a,$and/0/a]");
        Checks.by("MANY-KEYED: the first $eq or $in that has bounds, also if no value is in them");
        Told.dueManyKeyed("{a: {$lt: 1, $in: [], $eq: 2}}", "");
        Checks.by("MANY-KEYED: the first $eq or $in (not under $elem)");
        Told.dueManyKeyed("{a: {$elem: {$eq: 1}, $lt: 7, $eq: 3}}", "2[a/$eq,a/$eq]");
        Told.dueManyKeyed("{a: {$lt: 7, $elem: {$eq: 1}}}", "2(-,a/$lt)");
        Told.dueManyKeyed("{a: {$lt: 7, $elem: {$in: [1]}, $in: [2]}}", "2[a/$in/0,a/$in/0]");
        Checks.by("MANY-KEYED: or if there is none of the first one that has bounds.");
        Told.dueManyKeyed("{a: {$gt: 1, $lt: 5}}", "2(a/$gt,+)");
        Told.dueManyKeyed("{a: {$lt: 5, $gt: 1}}", "2(-,a/$lt)");
        Told.dueManyKeyed("{a: {$elem: {$eq: 1}, $lt: 7}}", "2[a/$elem/$eq,a/$elem/$eq] 5(-,+)");
        Told.dueManyKeyed("{a: {$ne: 1, $size: 1, $lt: [], $gte: 3, $lte: 9}}", "2[a/$gte,+)");
        Told.dueManyKeyed("{a: {$ne: 1, $size: 1, $lt: null, $gt: 1}}", "");
        Told.dueManyKeyed("{a: {$elem: {$ne: 1}, $lte: 1, $gte: 1}}", "2(-,a/$lte]");
    }
}
