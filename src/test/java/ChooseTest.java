/** Promise 12: choose. */
public final class ChooseTest {
    public static void main(String[] args) {
        BoundsPlanner x = new BoundsPlanner();
        Checks.due("without filter", x.choose(), -2);
        Tape.filter(x, "{a: {$in: [1, 2]}, b: {$gt: 1}, c: {$in: [1, 2, 3]}, d: 1}");
        Checks.due("without indexes", x.choose(), -1);
        Tape.index(x, 7, "z", "a", 0);
        Checks.due("rank 0 alone", x.choose(), -1);
        Tape.index(x, 6, "b", "a", 0);
        Checks.due("rank 1", x.choose(), 6);
        Tape.index(x, 5, "c", "", 0);
        Checks.due("rank 2", x.choose(), 5);
        Tape.index(x, 4, "a", "z", 0);
        Checks.due("rank 2 with fewer", x.choose(), 4);
        Tape.index(x, 3, "a", "c", 0);
        Checks.due("rank 3 with more", x.choose(), 3);
        Tape.index(x, 2, "c", "a", 0);
        Checks.due("rank 3 with as many, a lesser number", x.choose(), 2);
        Tape.index(x, 7, "a", "b", 0);
        Checks.due("rank 3 with fewer, a greater number", x.choose(), 7);
        Tape.index(x, 0, "d", "", 0);
        Checks.due("rank 2 with one only", x.choose(), 7);
        Tape.filter(x, "{a: {$in: []}, b: 1, d: 1}");
        Checks.due("two without ranges", x.choose(), 6);
        x.drop(6);
        Checks.due("the other one", x.choose(), 7);
        x.drop(7);
        Checks.due("rank 2, without ranges before one range", x.choose(), 3);
        Tape.index(x, 1, "b", "", 0);
        Tape.filter(x, "{d: {$gt: 1}, b: {$gt: 1}}");
        Checks.due("of the same the lesser number", x.choose(), 0);
        Tape.filter(x, "{q: 1}");
        Checks.due("all are free", x.choose(), -1);
        Tape.filter(x, "{q: {$in: 1}}");
        Checks.due("behind a fault", x.choose(), -2);
        Checks.finish("ChooseTest");
    }
}
