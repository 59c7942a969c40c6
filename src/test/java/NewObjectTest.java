/** Promise 1: a new object has no indexes, no filter, no value, nothing on the tape. */
public final class NewObjectTest {
    public static void main(String[] args) {
        BoundsPlanner x = new BoundsPlanner();
        Checks.due("choose", x.choose(), -2);
        for (int i = -1; i <= 8; i++) {
            Checks.due("rank " + i, x.rank(i), -1);
            Checks.due("ranges " + i, x.ranges(i), -1);
            Checks.due("many " + i, x.many(i, 0), -2);
            Checks.due("end " + i, x.end(i, 0, 0, true, 0), -2);
            Checks.due("inside " + i, x.inside(i, 0), -1);
            Checks.due("drop " + i, x.drop(i), false);
        }
        Checks.due("index from an empty tape", x.index(0, 1, 0, 0), -1);
        Checks.due("filter from an empty tape", x.filter(1), -2);
        Checks.due("value from an empty tape", x.value(1), -2);
        Checks.due("first feed", x.feed(0, 0, 0, 0, 0), 20);
        objectsAreApart();
        noIndexAndNoValueBehindAFilter();
        Checks.finish("NewObjectTest");
    }

    private static void objectsAreApart() {
        BoundsPlanner x = new BoundsPlanner();
        BoundsPlanner y = new BoundsPlanner();
        Checks.due("filter", Tape.filter(x, "{a: 1}"), 0);
        Checks.due("index", Tape.index(x, 0, "a", "", 0), 0);
        Checks.due("choose of the one", x.choose(), 0);
        Checks.due("choose of the other", y.choose(), -2);
        Checks.due("drop of the other", y.drop(0), false);
        Checks.due("tape of the other", y.feed(1, 2, 3, 4, 5), 20);
        Checks.due("tape of the one", x.feed(1, 2, 3, 4, 5), 20);
    }

    private static void noIndexAndNoValueBehindAFilter() {
        BoundsPlanner x = new BoundsPlanner();
        Checks.due("filter", Tape.filter(x, "{a: 1}"), 0);
        Checks.due("choose without indexes", x.choose(), -1);
        Checks.due("rank without index", x.rank(0), -1);
        Checks.due("index", Tape.index(x, 0, "b", "", 0), 0);
        Checks.due("inside without value", x.inside(0, 0), -1);
    }
}
