/**
 * A planner that has everything: indexes, a filter, a value, bytes on the tape; and whether it has
 * each of them still, so that a call that does nothing is seen to do nothing.
 */
final class Scene {
    private static final String FILTER = "{a: {$in: [1, 2, 3], $gte: 2}, b: {$gt: 5}}";
    /** What is on the tape: a document of so many bytes, and zeros up to 20. */
    static final int DOCUMENT_BYTES = 12;

    private Scene() {
    }

    /** Index 0 on a; index 5 on b (DOWN) and a (DOWN, MANY-KEYED); the value 2; {v: 9} taped. */
    static Planner made() {
        Planner x = withoutTape();
        Tape.feed(x, Val.of("{v: 9}").bytes());
        return x;
    }

    static Planner withoutTape() {
        Planner x = new Planner();
        Tape.index(x, 0, "a", "", 0);
        Tape.index(x, 5, "b", "a", 1 + 2 + 8);
        Tape.filter(x, FILTER);
        Tape.value(x, "2");
        return x;
    }

    static void hasAll(String behind, Planner x) {
        hasIndexesAndFilter(behind, x);
        hasValue(behind, x);
        hasTape(behind, x);
    }

    static void hasIndexesAndFilter(String behind, Planner x) {
        Val filter = Val.of(FILTER);
        filter.bytes();
        Checks.due("intervals of a behind " + behind, x.many(0, 0), 2);
        Checks.due("no second path behind " + behind, x.many(0, 1), -2);
        Checks.due("intervals of b behind " + behind, x.many(5, 0), 1);
        Checks.due("all of a, MANY-KEYED, behind " + behind, x.many(5, 1), 3);
        Checks.due("UP behind " + behind, x.end(0, 0, 0, true, 3), filter.at("a/$in/1").place);
        Checks.due("DOWN behind " + behind, x.end(5, 1, 0, true, 3), filter.at("a/$in/2").place);
        for (int i = 0; i < 8; i++) {
            int want = i == 0 ? 2 : i == 5 ? 1 : -1;
            Checks.due("rank of " + i + " behind " + behind, x.rank(i), want);
        }
        Checks.due("choose behind " + behind, x.choose(), 0);
    }

    /** The indexes alone, with the filter said once more; the tape has to be empty. */
    static void hasIndexes(String behind, Planner x) {
        Checks.due("the filter again behind " + behind, Tape.filter(x, FILTER), 0);
        hasIndexesAndFilter(behind, x);
    }

    static void hasNoFilter(String behind, Planner x) {
        Checks.due("choose behind " + behind, x.choose(), -2);
        Checks.due("rank behind " + behind, x.rank(0), -1);
        Checks.due("ranges behind " + behind, x.ranges(0), -1);
        Checks.due("many behind " + behind, x.many(0, 0), -2);
        Checks.due("end behind " + behind, x.end(0, 0, 0, false, 0), -2);
        Checks.due("inside behind " + behind, x.inside(0, 0), -1);
    }

    static void hasValue(String behind, Planner x) {
        Checks.due("2 is inside behind " + behind, x.inside(0, 0), 1);
        Checks.due("2 is not inside b behind " + behind, x.inside(5, 0), 0);
    }

    static void hasNoValue(String behind, Planner x) {
        Checks.due("inside behind " + behind, x.inside(0, 0), -1);
        Checks.due("inside b behind " + behind, x.inside(5, 0), -1);
    }

    /** The value is another one behind it. */
    static void hasTape(String behind, Planner x) {
        Checks.due("feed behind " + behind, x.feed(-1, -1, -1, -1, -1), 40);
        Checks.due("the document on the tape behind " + behind, x.value(DOCUMENT_BYTES), 16);
        Checks.due("9 is not inside behind " + behind, x.inside(0, 0), 0);
        Checks.due("9 is inside b behind " + behind, x.inside(5, 0), 1);
    }

    /** There are twenty bytes on the tape behind it. */
    static void hasEmptyTape(String behind, Planner x) {
        Checks.due("feed behind " + behind, x.feed(0, 0, 0, 0, 0), 20);
    }
}
