/** Promise 12: choose. */
public final class ChooseTest {
    private static final String FILTER = "{a: {$in: [1, 2]}, b: {$gt: 1}, c: {$in: [1, 2, 3]}, "
            + "d: 1, e: {$in: []}}";

    public static void main(String[] args) {
        highestRank();
        fewerRanges();
        lesserNumber();
        noneAboveZero();
        noFilter();
        Checks.finish("ChooseTest");
    }

    /** Index i is on paths[i], the second one behind a comma; there is none where it is null. */
    private static void choose(int want, String filter, String... paths) {
        Planner x = new Planner();
        StringBuilder all = new StringBuilder(filter).append(" of");
        for (int i = 0; i < paths.length; i++) {
            all.append(" ").append(paths[i]);
            if (paths[i] != null) {
                String[] both = paths[i].split(",");
                Tape.index(x, i, both[0], both.length == 2 ? both[1] : "", 0);
            }
        }
        Checks.due("filter " + filter, Tape.filter(x, filter), 0);
        Checks.due("choose by " + all, x.choose(), want);
    }

    private static void highestRank() {
        Checks.by("The CHOICE: the index of the highest rank");
        choose(0, FILTER, "b", "z");
        choose(1, FILTER, "z", "b");
        choose(1, FILTER, "b", "a");
        choose(0, FILTER, "a", "b");
        choose(1, FILTER, "a", "a,b");
        choose(0, FILTER, "a,b", "a");
        choose(7, FILTER, "z", "b", "a", "d", "b,a", "z,d", "c", "d,b");
        Checks.by("The CHOICE: the index of the highest rank, though it has more RANGES");
        choose(1, FILTER, "b", "c");
        choose(1, FILTER, "d", "c,a");
        choose(0, FILTER, "c,a", "d");
        choose(1, FILTER, "e", "c,a");
        choose(0, FILTER, "b", "z,e");
    }

    private static void fewerRanges() {
        Checks.by("The CHOICE: of several the one with fewer RANGES");
        choose(1, FILTER, "c", "a");
        choose(0, FILTER, "a", "c");
        choose(1, FILTER, "c,a", "a,b");
        choose(2, FILTER, "c", "a", "d", "a", "c");
        choose(2, FILTER, "c", "a", "e", "d");
        choose(1, "{a: {$elem: {$eq: 1}}, b: {$gt: 1}}", "a", "b");
        choose(0, "{a: {$elem: {$eq: 1}}, b: {$gt: 1}}", "b", "a");
        choose(1, FILTER, "c,a", "d,e");
    }

    private static void lesserNumber() {
        Checks.by("The CHOICE: then the one with the lesser number.");
        choose(0, FILTER, "a", "a");
        choose(1, FILTER, null, "a", "a,z", "a");
        choose(6, FILTER, null, "b", null, "z", null, null, "a,c", "c,a");
        choose(0, FILTER, "b", "b,a");
        choose(2, FILTER, "b", "d", "e", "e,z");
        choose(0, FILTER, "a", "a,z", null, null, null, null, null, "a");
    }

    private static void noneAboveZero() {
        Checks.by("choose: -1 when no index has a rank above 0");
        choose(-1, FILTER);
        choose(-1, FILTER, "z");
        choose(-1, FILTER, "z", "y,a", "aa", "a.b", "z", "z", "z", "y,e");
        choose(-1, "{}", "a", "b,a");
        choose(-1, "{$or: [{a: 1}]}", "a");
        Planner x = new Planner();
        Tape.filter(x, FILTER);
        Tape.index(x, 2, "a", "", 0);
        Checks.due("one", x.choose(), 2);
        x.drop(2);
        Checks.due("behind drop", x.choose(), -1);
    }

    private static void noFilter() {
        Checks.by("choose: -2 when there is no filter.");
        Planner x = new Planner();
        Checks.due("without indexes", x.choose(), -2);
        Tape.index(x, 0, "a", "", 0);
        Checks.due("with an index", x.choose(), -2);
        Tape.filter(x, "{a: 1}");
        Checks.due("with a filter", x.choose(), 0);
        Tape.filter(x, "{a: {$in: 1}}");
        Checks.due("behind a fault", x.choose(), -2);
        Tape.filter(x, "{a: 1}");
        x.filter(0);
        Checks.due("behind -1", x.choose(), -2);
        x.drop(0);
        Checks.due("without indexes again", x.choose(), -2);
    }
}
