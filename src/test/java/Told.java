import java.util.ArrayList;
import java.util.List;

/** Compares the intervals of a path with what is due, the values being said by their names. */
final class Told {
    private Told() {
    }

    /**
     * The intervals of the index on path a alone, with this how. Due is a text such as
     * "2(a/$gt,a/$lt] 5(-,+)": the class, and at each end the names that lead to its value in the
     * filter, or - and + for the class's beginning and end; "free" for a FREE path.
     */
    static void due(String source, int how, String due) {
        BoundsPlanner x = new BoundsPlanner();
        Val filter = Val.of(source);
        Checks.due("filter " + source, Tape.filter(x, filter.bytes()), 0);
        Checks.due("index", Tape.index(x, 0, "a", "", how), 0);
        String got = x.many(0, 0) == -1 ? "free" : Tape.told(x, 0, 0);
        String want = withPlaces(filter, due);
        Checks.due(source + " by how " + how + " (told " + got + ", due " + want + ")",
                got.equals(want), true);
        Checks.due("none behind the last", x.end(0, 0, Math.max(0, x.many(0, 0)), false, 0), -2);
    }

    private static String withPlaces(Val filter, String due) {
        if (due.equals("free") || due.isEmpty()) {
            return due;
        }
        List<String> out = new ArrayList<>();
        for (String span : due.split(" ")) {
            int comma = span.indexOf(',');
            String low = span.substring(2, comma);
            String high = span.substring(comma + 1, span.length() - 1);
            out.add(span.substring(0, 2) + place(filter, low) + "," + place(filter, high)
                    + span.substring(span.length() - 1));
        }
        return String.join(" ", out);
    }

    private static String place(Val filter, String names) {
        boolean side = names.equals("-") || names.equals("+");
        return side ? names : Integer.toString(filter.at(names).place);
    }
}
