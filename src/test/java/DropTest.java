/** Promise 4: drop. */
public final class DropTest {
    public static void main(String[] args) {
        goes();
        theOthersStay();
        noneThere();
        saidAnew();
        Checks.finish("DropTest");
    }

    private static void goes() {
        Checks.by("Index i goes: true");
        Planner x = new Planner();
        for (int i = 0; i < 8; i++) {
            Tape.index(x, i, "a", "b", 0);
        }
        Tape.filter(x, "{a: 1, b: 2}");
        Tape.value(x, "1");
        for (int i = 0; i < 8; i++) {
            Checks.due("choose", x.choose(), i);
            Checks.due("drop", x.drop(i), true);
            Checks.due("rank of the dropped", x.rank(i), -1);
            Checks.due("ranges of the dropped", x.ranges(i), -1);
            for (int w = 0; w < 2; w++) {
                Checks.due("many of the dropped", x.many(i, w), -2);
                Checks.due("end of the dropped", x.end(i, w, 0, false, 0), -2);
                Checks.due("inside of the dropped", x.inside(i, w), -1);
            }
        }
        Checks.due("choose without any", x.choose(), -1);
    }

    private static void theOthersStay() {
        Checks.by("Index i goes: no other one, and nothing else");
        Planner x = new Planner();
        for (int i = 0; i < 8; i++) {
            Tape.index(x, i, "a", "b", 0);
        }
        Tape.filter(x, "{a: 1}");
        Checks.due("drop 3", x.drop(3), true);
        for (int i = 0; i < 8; i++) {
            Checks.due("rank of " + i, x.rank(i), i == 3 ? -1 : 2);
        }
        Planner y = Scene.withoutTape();
        Tape.index(y, 6, "c", "", 0);
        Tape.feed(y, Val.of("{v: 9}").bytes());
        Checks.due("drop 6", y.drop(6), true);
        Scene.hasAll("drop 6", y);
    }

    private static void noneThere() {
        Checks.by("drop: false when there is none.");
        int[] numbers = {1, 2, 3, 4, 6, 7, -1, -5, 8, 13, Integer.MIN_VALUE, Integer.MAX_VALUE};
        for (int i : numbers) {
            Planner x = Scene.made();
            Checks.due("drop " + i, x.drop(i), false);
            Scene.hasAll("drop " + i, x);
        }
        Planner x = Scene.withoutTape();
        Checks.due("drop 5", x.drop(5), true);
        Checks.due("drop 5 again", x.drop(5), false);
        Tape.index(x, 5, ".", "", 0);
        Checks.due("drop 5 behind -2", x.drop(5), false);
    }

    private static void saidAnew() {
        Checks.by("Index i goes: said anew, it has nothing of the old one");
        Planner x = Scene.withoutTape();
        Checks.due("drop", x.drop(5), true);
        Checks.due("anew", Tape.index(x, 5, "a", "", 0), 0);
        Checks.due("no second path", x.many(5, 1), -2);
        Checks.due("not MANY-KEYED", x.many(5, 0), 2);
        Checks.due("drop anew", x.drop(5), true);
    }
}
