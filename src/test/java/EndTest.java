/** Promise 8: end; which intervals there are is in IntervalsTest. */
public final class EndTest {
    private static final int LEAST = Integer.MIN_VALUE;
    private static final int GREATEST = Integer.MAX_VALUE;

    public static void main(String[] args) {
        theClass();
        whetherItIsAValue();
        whetherItIsIn();
        thePlace();
        noneSuch();
        Checks.finish("EndTest");
    }

    private static void ends(String filter, int what, int low, int high) {
        Planner x = new Planner();
        Checks.due("filter " + filter, Tape.filter(x, filter), 0);
        Tape.index(x, 0, "a", "", 0);
        Checks.due("low " + what + " of " + filter, x.end(0, 0, 0, false, what), low);
        Checks.due("high " + what + " of " + filter, x.end(0, 0, 0, true, what), high);
    }

    private static void theClass() {
        Checks.by("end: what 0 the class");
        String[] values = {"null", "1", "1L", "'x'", "{}", "true"};
        int[] due = {1, 2, 2, 3, 4, 6};
        for (int i = 0; i < values.length; i++) {
            ends("{a: {$eq: " + values[i] + "}}", 0, due[i], due[i]);
            ends("{a: {$lte: " + values[i] + "}}", 0, due[i], due[i]);
            ends("{a: {$gte: " + values[i] + "}}", 0, due[i], due[i]);
        }
        ends("{a: {$elem: {$in: []}}}", 0, 5, 5);
    }

    private static void whetherItIsAValue() {
        Checks.by("end: 1 whether it is a value (1), or the class's beginning or end (0)");
        ends("{a: 1}", 1, 1, 1);
        ends("{a: {$lt: 1}}", 1, 0, 1);
        ends("{a: {$lte: 'x'}}", 1, 0, 1);
        ends("{a: {$gt: true}}", 1, 1, 0);
        ends("{a: {$gte: {}}}", 1, 1, 0);
        ends("{a: {$gte: null}}", 1, 1, 1);
        ends("{a: {$gt: 1, $lt: 2}}", 1, 1, 1);
        ends("{a: {$elem: {$in: []}}}", 1, 0, 0);
    }

    private static void whetherItIsIn() {
        Checks.by("end: 2 whether it is IN (1) or out (0)");
        ends("{a: 1}", 2, 1, 1);
        ends("{a: {$lt: 1}}", 2, 0, 0);
        ends("{a: {$lte: 1}}", 2, 0, 1);
        ends("{a: {$gt: 1}}", 2, 0, 0);
        ends("{a: {$gte: 1}}", 2, 1, 0);
        ends("{a: {$lte: null}}", 2, 1, 1);
        ends("{a: {$gte: null}}", 2, 1, 1);
        ends("{a: {$elem: {$in: []}}}", 2, 0, 0);
    }

    private static void thePlace() {
        Checks.by("end: 3 of a value the place in the filter, from 0 on, where the kind of the "
                + "element or item stands that has it");
        ends("{a: 1}", 3, 4, 4);
        ends("{'b': null, a: 1}", 3, 7, 7);
        ends("{a: {$eq: 1}}", 3, 11, 11);
        ends("{a: {$in: [1]}}", 3, 20, 20);
        ends("{a: {$in: [2, 1]}}", 3, 27, 27);
        ends("{$and: [{a: 1}]}", 3, 21, 21);
        ends("{a: {$gte: 1, $lte: 2}}", 3, 11, 21);
        Checks.by("end: -1 of others.");
        ends("{a: {$lt: 1}}", 3, -1, 11);
        ends("{a: {$gt: 1}}", 3, 11, -1);
        ends("{a: {$elem: {$in: []}}}", 3, -1, -1);
    }

    private static void noneSuch() {
        Planner x = new Planner();
        Tape.index(x, 2, "a", "b", 0);
        Tape.index(x, 3, "a", "", 1);
        Checks.by("end: -2 when there is none such: no filter");
        Checks.due("end", x.end(2, 0, 0, false, 0), -2);
        Tape.filter(x, "{a: {$in: [1, 2]}}");
        Checks.by("end: -2 when there is none such: no such index");
        for (int i : new int[] {0, 1, 4, 7, -1, 8, LEAST, GREATEST}) {
            Checks.due("index " + i, x.end(i, 0, 0, false, 0), -2);
        }
        Checks.by("end: -2 when there is none such: no such path");
        for (int w : new int[] {-1, 2, 3, LEAST, GREATEST}) {
            Checks.due("path " + w, x.end(2, w, 0, false, 0), -2);
        }
        Checks.due("no second path", x.end(3, 1, 0, false, 0), -2);
        Checks.by("end: -2 when there is none such: no such interval");
        for (int k : new int[] {-1, 2, 3, LEAST, GREATEST}) {
            Checks.due("interval " + k, x.end(2, 0, k, true, 0), -2);
            Checks.due("interval " + k + ", DOWN", x.end(3, 0, k, false, 0), -2);
        }
        Checks.due("interval 0", x.end(3, 0, 0, false, 0), 2);
        Checks.due("interval 1", x.end(3, 0, 1, false, 0), 2);
        Checks.by("end: -2 when there is none such: no such what");
        for (int what : new int[] {-1, 4, 5, -2, LEAST, GREATEST}) {
            Checks.due("what " + what, x.end(2, 0, 0, true, what), -2);
            Checks.due("what " + what + " of the low END", x.end(2, 0, 0, false, what), -2);
        }
        Checks.by("end: -2 when there is none such: a FREE path has no intervals");
        Checks.due("of the FREE path", x.end(2, 1, 0, false, 0), -2);
        Checks.by("end: -2 when there is none such: bounds without any value");
        Tape.filter(x, "{a: {$in: []}}");
        Checks.due("of no intervals", x.end(2, 0, 0, false, 0), -2);
        Checks.due("of no intervals, DOWN", x.end(3, 0, 0, false, 0), -2);
        Checks.due("of no intervals, -1", x.end(3, 0, -1, false, 0), -2);
    }
}
