import java.util.ArrayList;
import java.util.List;

/** Compares the intervals of a path with what is due, the values being said by their names. */
final class Told {
    private static final int DOWN = 1;
    private static final int MANY_KEYED = 4;

    private Told() {
    }

    /** UP, not MANY-KEYED. */
    static void due(String filter, String due) {
        due(filter, 0, due);
    }

    static void dueDown(String filter, String due) {
        due(filter, DOWN, due);
    }

    static void dueManyKeyed(String filter, String due) {
        due(filter, MANY_KEYED, due);
    }

    /**
     * The intervals of the path a, as the first path of an index with this how and as the second
     * path of one that says the same of it. Due is a text such as "2(a/$gt,a/$lt] 5(-,+)": the
     * class, and at each end the names that lead to its value in the filter, or - and + for the
     * class's beginning and end; "free" for a FREE path.
     */
    static void due(String source, int how, String due) {
        Planner x = new Planner();
        Val filter = Val.of(source);
        Checks.due("filter " + source, Tape.filter(x, filter.bytes()), 0);
        Checks.due("index on a", Tape.index(x, 0, "a", "", how), 0);
        Checks.due("index on z, a", Tape.index(x, 7, "z", "a", 2 * how), 0);
        compare(x, 0, 0, source + " by how " + how, withPlaces(filter, due));
        compare(x, 7, 1, source + " by how " + 2 * how, withPlaces(filter, due));
    }

    private static void compare(Planner x, int i, int w, String what, String want) {
        String got = x.many(i, w) == -1 ? "free" : Tape.told(x, i, w);
        Checks.due(what + " (told " + got + ", due " + want + ")", got.equals(want), true);
        Checks.due(what + ": none behind the last",
                x.end(i, w, Math.max(0, x.many(i, w)), false, 0), -2);
    }

    private static String withPlaces(Val filter, String due) {
        if (due.equals("free") || due.isEmpty()) {
            return due;
        }
        List<String> out = new ArrayList<>();
        for (String span : due.split(" ")) {
            int comma = span.indexOf(',');
            String low = span.substring(2, comma);
            String high = span.substring(comma + 1, span.length() - 1);
            out.add(span.substring(0, 2) + place(filter, low) + "," + place(filter, high)
                    + span.substring(span.length() - 1));
        }
        return String.join(" ", out);
    }

    private static String place(Val filter, String names) {
        boolean side = names.equals("-") || names.equals("+");
        return side ? names : Integer.toString(filter.at(names).place);
    }
}
