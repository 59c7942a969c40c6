/** Promise 5: filter; its faults are in FaultsTest, the bytes of a document in DocumentTest. */
public final class FilterTest {
    private static final String DOCUMENT_AND_MORE = "{a: 5}";
    private static final int DOCUMENT_BYTES = 12;

    public static void main(String[] args) {
        theFirstBytes();
        theTapeIsEmpty();
        justThatDocument();
        withoutElements();
        fromNowOn();
        noneBehindAFault();
        noneBehindNoDocument();
        doingNothing();
        noBytes();
        allThereAre();
        Checks.finish("FilterTest");
    }

    private static void theFirstBytes() {
        Checks.by("The first n bytes of the tape are the filter");
        Planner x = Scene.withoutTape();
        Tape.feed(x, Val.of(DOCUMENT_AND_MORE).bytes());
        x.feed(-1, -1, -1, -1, -1);
        Checks.due("filter", x.filter(DOCUMENT_BYTES), 0);
        Checks.due("a", x.many(0, 0), 1);
        Checks.due("its place", x.end(0, 0, 0, false, 3), 4);
    }

    private static void theTapeIsEmpty() {
        Checks.by("filter: the tape (which is empty then)");
        int[] answers = {0, 3, -1};
        String[] filters = {"{a: 1}", "{a..: 1}", "{a: 1, a: 1}"};
        for (int i = 0; i < 3; i++) {
            Planner x = new Planner();
            byte[] bytes = Val.of(filters[i]).bytes();
            Tape.feed(x, bytes);
            x.feed(0, 0, 0, 0, 0);
            Checks.due("filter " + filters[i], x.filter(bytes.length), answers[i]);
            Checks.due("one byte", x.filter(1), -2);
            Scene.hasEmptyTape("filter " + filters[i], x);
        }
    }

    private static void justThatDocument() {
        Checks.by("filter: (just that document)");
        for (int more = -DOCUMENT_BYTES; more <= 8; more++) {
            Planner x = new Planner();
            Tape.feed(x, Val.of(DOCUMENT_AND_MORE).bytes());
            Checks.due("filter with " + more + " bytes more", x.filter(DOCUMENT_BYTES + more),
                    more == 0 ? 0 : -1);
        }
    }

    private static void withoutElements() {
        Checks.by("filter: (one without elements will do)");
        Planner x = Scene.withoutTape();
        Checks.due("filter {}", Tape.filter(x, "{}"), 0);
        Checks.due("a is FREE", x.many(0, 0), -1);
        Checks.due("b is FREE", x.many(5, 0), -1);
        Checks.due("2 is inside", x.inside(5, 0), 1);
        Checks.due("rank", x.rank(0), 0);
        Checks.due("ranges", x.ranges(0), 1);
        Checks.due("choose", x.choose(), -1);
    }

    private static void fromNowOn() {
        Checks.by("are the filter from now on");
        Planner x = Scene.withoutTape();
        Checks.due("another one", Tape.filter(x, "{b: 1}"), 0);
        Checks.due("a is FREE now", x.many(0, 0), -1);
        Checks.due("b has a point now", x.rank(5), 2);
        Checks.due("choose", x.choose(), 5);
        Tape.index(x, 2, "b", "", 0);
        Checks.due("for an index that is said later, too", x.rank(2), 2);
        Checks.due("the first one again", Tape.filter(x, "{a: {$in: [1, 2]}}"), 0);
        Checks.due("a has two now", x.many(0, 0), 2);
        x.drop(2);
        Scene.hasIndexes("filters", x);
    }

    private static void noneBehindAFault() {
        Checks.by("filter: the fault (there is none then)");
        String[] wrong = {"{$a: 1}", "{$and: []}", "{'': 1}", "{a: {$in: 1}}", FaultsTest.paths(51, "1", "")};
        for (int fault = 1; fault <= 5; fault++) {
            Planner x = Scene.withoutTape();
            Checks.due("fault", Tape.filter(x, wrong[fault - 1]), fault);
            Scene.hasNoFilter("fault " + fault, x);
            Scene.hasIndexes("fault " + fault, x);
            Scene.hasValue("fault " + fault, x);
        }
    }

    private static void noneBehindNoDocument() {
        Checks.by("filter: -1 when they are no document (there is none then)");
        String[] wrong = {"05 00 00 00 01", "05 00 00 00 00 00", "04 00 00 00 00", "00", ""};
        for (String hex : wrong) {
            Planner x = Scene.withoutTape();
            Checks.due("filter " + hex, Tape.filter(x, Tape.hex(hex)), -1);
            Scene.hasNoFilter("no document", x);
            Scene.hasIndexes("no document", x);
            Scene.hasValue("no document", x);
        }
    }

    private static void doingNothing() {
        Checks.by("filter: -2, doing nothing, when n is below 0 or more than there are.");
        int[] wrong = {-1, 21, 2000, 2001, Integer.MIN_VALUE, Integer.MAX_VALUE, -20};
        for (int n : wrong) {
            Planner x = Scene.made();
            Checks.due("filter " + n, x.filter(n), -2);
            Scene.hasAll("filter " + n, x);
        }
        Planner x = Scene.withoutTape();
        Checks.due("one of none", x.filter(1), -2);
        Scene.hasIndexesAndFilter("one of none", x);
    }

    private static void noBytes() {
        Checks.by("-2 when n is below 0: 0 is not, and no bytes are no document");
        Planner x = Scene.made();
        Checks.due("filter of none", x.filter(0), -1);
        Scene.hasNoFilter("filter of none", x);
        Scene.hasEmptyTape("filter of none", x);
    }

    private static void allThereAre() {
        Checks.by("-2 when n is more than there are: as many as there are is not");
        Planner x = new Planner();
        byte[] twenty = Val.of("{a: {b: true, c: null}}").bytes();
        Tape.feed(x, twenty);
        Checks.due("filter of 21", x.filter(twenty.length + 1), -2);
        Checks.due("filter of 20", x.filter(20), 0);
        byte[] full = new Val(3).with("a", Val.text("x".repeat(2000 - 13))).bytes();
        Checks.due("filter of 2000", Tape.filter(x, full), 0);
    }
}
