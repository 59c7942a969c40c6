/** Promise 4: drop. */
public final class DropTest {
    public static void main(String[] args) {
        BoundsPlanner x = new BoundsPlanner();
        for (int i = 0; i < 8; i++) {
            Checks.due("drop before", x.drop(i), false);
            Checks.due("index", Tape.index(x, i, "a", "b", 0), 0);
        }
        Tape.filter(x, "{a: 1, b: 2}");
        Tape.value(x, "1");
        int[] wrong = {-1, 8, 16, Integer.MIN_VALUE, Integer.MAX_VALUE};
        for (int i : wrong) {
            Checks.due("drop " + i, x.drop(i), false);
        }
        for (int i = 0; i < 8; i++) {
            Checks.due("choose", x.choose(), i);
            Checks.due("drop", x.drop(i), true);
            Checks.due("rank of the dropped", x.rank(i), -1);
            Checks.due("ranges of the dropped", x.ranges(i), -1);
            Checks.due("many of the dropped", x.many(i, 0), -2);
            Checks.due("many of the dropped's second", x.many(i, 1), -2);
            Checks.due("end of the dropped", x.end(i, 0, 0, false, 0), -2);
            Checks.due("inside of the dropped", x.inside(i, 0), -1);
            Checks.due("drop again", x.drop(i), false);
        }
        Checks.due("choose without any", x.choose(), -1);
        Checks.due("anew", Tape.index(x, 3, "b", "", 0), 0);
        Checks.due("no second path is left", x.many(3, 1), -2);
        Checks.due("drop anew", x.drop(3), true);
        Checks.finish("DropTest");
    }
}
