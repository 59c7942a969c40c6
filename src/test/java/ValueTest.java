import java.util.Arrays;

/** Promise 6: value. */
public final class ValueTest {
    public static void main(String[] args) {
        theFirstBytes();
        theTapeIsEmpty();
        justThat();
        theFirstElement();
        fromNowOn();
        kinds();
        noDocument();
        withoutElements();
        doingNothing();
        noBytes();
        allThereAre();
        Checks.finish("ValueTest");
    }

    private static void theFirstBytes() {
        Checks.by("value: The first n bytes of the tape are a document");
        Planner x = Scene.withoutTape();
        Tape.feed(x, Val.of("{v: 9}").bytes());
        x.feed(-1, -1, -1, -1, -1);
        Checks.due("value", x.value(12), 16);
        Checks.due("9 is inside b", x.inside(5, 0), 1);
    }

    private static void theTapeIsEmpty() {
        Checks.by("value: the tape (which is empty then)");
        String[] documents = {"{a: 1}", "{}", "{a: 1, a: 1}"};
        for (String document : documents) {
            Planner x = new Planner();
            byte[] bytes = Val.of(document).bytes();
            Tape.feed(x, bytes);
            x.feed(0, 0, 0, 0, 0);
            Checks.due("value " + document, x.value(bytes.length), document.equals("{a: 1}") ? 16 : -1);
            Checks.due("one byte", x.value(1), -2);
            Scene.hasEmptyTape("value " + document, x);
        }
    }

    private static void justThat() {
        Checks.by("value: a document (just that)");
        for (int more = -12; more <= 8; more++) {
            Planner x = new Planner();
            Tape.feed(x, Val.of("{a: 5}").bytes());
            Checks.due("value with " + more + " bytes more", x.value(12 + more), more == 0 ? 16 : -1);
        }
    }

    private static void theFirstElement() {
        Checks.by("whose first element (there may be more) has the VALUE");
        Planner x = Scene.withoutTape();
        Checks.due("9 and more", Tape.value(x, Val.of("{'': 9, a: 'x', b: 2}").bytes()), 16);
        Checks.due("9 is inside b", x.inside(5, 0), 1);
        Checks.due("9 is not inside a", x.inside(0, 0), 0);
        Checks.due("2 and more", Tape.value(x, Val.of("{b: 2L, a: 9}").bytes()), 18);
        Checks.due("2 is not inside b", x.inside(5, 0), 0);
        Checks.due("2 is inside a", x.inside(0, 0), 1);
    }

    private static void fromNowOn() {
        Checks.by("has the VALUE from now on");
        Planner x = Scene.withoutTape();
        Tape.filter(x, "{b: {$lt: 5}}");
        Tape.index(x, 3, "b", "", 0);
        Checks.due("2 behind another filter and index", x.inside(3, 0), 1);
        Tape.filter(x, "{b: {$in: 5}}");
        Tape.filter(x, "{b: {$gt: 5}}");
        Checks.due("2 behind a fault and a filter", x.inside(3, 0), 0);
        Tape.value(x, "6");
        Checks.due("6 instead", x.inside(3, 0), 1);
    }

    private static void kinds() {
        Checks.by("value: its kind");
        String[] values = {"6", "6L", "true", "false", "null", "'abc'", "''", "{$x: 1}", "{}", "[1]", "[]"};
        int[] due = {16, 18, 8, 8, 10, 2, 2, 3, 3, 4, 4};
        for (int i = 0; i < values.length; i++) {
            Checks.due("value " + values[i], Tape.value(new Planner(), values[i]), due[i]);
        }
    }

    private static void noDocument() {
        Checks.by("value: -1 when they are none (there is none then)");
        String[] wrong = {
            "07 00 00 00 0A 61 00", "09 00 00 00 0A 61 00 00 00", "0A 61 00", "00",
            "09 00 00 00 08 61 00 02 00", "0B 00 00 00 0A 61 00 0A 61 00 00",
        };
        for (String hex : wrong) {
            Planner x = Scene.withoutTape();
            Checks.due("value " + hex, Tape.value(x, Tape.hex(hex)), -1);
            Scene.hasNoValue("value " + hex, x);
            Scene.hasIndexesAndFilter("value " + hex, x);
        }
    }

    private static void withoutElements() {
        Checks.by("value: -1 when without elements (there is none then)");
        Planner x = Scene.withoutTape();
        Checks.due("value of {}", Tape.value(x, Val.of("{}").bytes()), -1);
        Scene.hasNoValue("value of {}", x);
        Scene.hasIndexesAndFilter("value of {}", x);
        Checks.due("a value again", Tape.value(x, "2"), 16);
        Scene.hasValue("a value again", x);
    }

    private static void doingNothing() {
        Checks.by("value: -2, doing nothing, when n is below 0 or more than there are.");
        int[] wrong = {-1, 21, 2000, 2001, Integer.MIN_VALUE, Integer.MAX_VALUE, -20};
        for (int n : wrong) {
            Planner x = Scene.made();
            Checks.due("value " + n, x.value(n), -2);
            Scene.hasAll("value " + n, x);
        }
        Planner x = Scene.withoutTape();
        Checks.due("one of none", x.value(1), -2);
        Scene.hasValue("one of none", x);
    }

    private static void noBytes() {
        Checks.by("value: -2 when n is below 0: 0 is not, and no bytes are no document");
        Planner x = Scene.made();
        Checks.due("value of none", x.value(0), -1);
        Scene.hasNoValue("value of none", x);
        Scene.hasEmptyTape("value of none", x);
    }

    private static void allThereAre() {
        Checks.by("value: -2 when n is more than there are: as many as there are is not");
        Planner x = new Planner();
        byte[] twenty = Val.of("{a: {b: true, c: null}}").bytes();
        Tape.feed(x, twenty);
        Checks.due("value of 21", x.value(twenty.length + 1), -2);
        Checks.due("value of 20", x.value(20), 3);
        byte[] full = new Val(3).with("a", Val.text("x".repeat(2000 - 13))).bytes();
        Checks.due("value of 2000", Tape.value(x, full), 2);
        Tape.feed(x, Arrays.copyOf(full, 1980));
        Checks.due("value of 2000 without the last twenty", x.value(2000), -2);
    }
}
