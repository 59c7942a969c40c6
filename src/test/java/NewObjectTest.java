/** Promise 1: a new object. */
public final class NewObjectTest {
    public static void main(String[] args) {
        noIndexes();
        noFilter();
        noValue();
        nothingOnTheTape();
        objectsAreApart();
        allCallsOfARun();
        Checks.finish("NewObjectTest");
    }

    private static void noIndexes() {
        Checks.by("A new object: no indexes");
        Planner x = new Planner();
        Tape.filter(x, "{a: 1}");
        Tape.value(x, "1");
        for (int i = -1; i <= 8; i++) {
            Checks.due("drop " + i, x.drop(i), false);
            Checks.due("rank " + i, x.rank(i), -1);
            Checks.due("ranges " + i, x.ranges(i), -1);
            for (int w = 0; w < 2; w++) {
                Checks.due("many " + i + ", " + w, x.many(i, w), -2);
                Checks.due("end " + i + ", " + w, x.end(i, w, 0, true, 0), -2);
                Checks.due("inside " + i + ", " + w, x.inside(i, w), -1);
            }
        }
        Checks.due("choose", x.choose(), -1);
    }

    private static void noFilter() {
        Checks.by("A new object: no filter");
        Planner x = new Planner();
        Checks.due("choose at once", x.choose(), -2);
        Tape.index(x, 0, "a", "b", 0);
        Tape.value(x, "1");
        Scene.hasNoFilter("a new object", x);
    }

    private static void noValue() {
        Checks.by("A new object: no value");
        Planner x = new Planner();
        Tape.index(x, 0, "a", "b", 0);
        Tape.filter(x, "{a: {$gte: null}}");
        Checks.due("inside of a bounded path", x.inside(0, 0), -1);
        Checks.due("inside of a FREE path", x.inside(0, 1), -1);
    }

    private static void nothingOnTheTape() {
        Checks.by("A new object: nothing on the tape");
        Planner x = new Planner();
        Checks.due("index of one byte", x.index(0, 1, 0, 0), -1);
        Checks.due("filter of one byte", x.filter(1), -2);
        Checks.due("value of one byte", x.value(1), -2);
        Checks.due("filter of none", x.filter(0), -1);
        Checks.due("value of none", x.value(0), -1);
        Checks.due("the first feed", x.feed(0, 0, 0, 0, 0), 20);
    }

    private static void objectsAreApart() {
        Checks.by("A new object, beside one that is in use");
        Planner x = Scene.made();
        Planner y = new Planner();
        Checks.due("choose of the new one", y.choose(), -2);
        Checks.due("drop of the new one", y.drop(0), false);
        Checks.due("feed of the new one", y.feed(1, 2, 3, 4, 5), 20);
        Scene.hasAll("the calls of the other", x);
    }

    private static void allCallsOfARun() {
        Checks.by("An object is used for at most 512 calls after it has been made");
        Planner x = Scene.withoutTape();
        while (x.callsLeft() > 20) {
            Checks.due("inside", x.inside(0, 0), 1);
        }
        Scene.hasIndexesAndFilter("some 490 calls", x);
        while (x.callsLeft() > 1) {
            Checks.due("ranges", x.ranges(0), 2);
        }
        Checks.due("the 512th call", x.choose(), 0);
    }
}
