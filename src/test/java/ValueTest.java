/** Promise 6: value. */
public final class ValueTest {
    public static void main(String[] args) {
        BoundsPlanner x = new BoundsPlanner();
        Tape.index(x, 0, "a", "", 0);
        Tape.filter(x, "{a: {$gt: 5}}");
        Checks.due("no value yet", x.inside(0, 0), -1);
        Checks.due("32 bits", Tape.value(x, "6"), 16);
        Checks.due("inside", x.inside(0, 0), 1);
        Checks.due("the tape is empty", x.value(1), -2);
        Checks.due("below 0", x.value(-1), -2);
        Checks.due("least", x.value(Integer.MIN_VALUE), -2);
        Checks.due("greatest", x.value(Integer.MAX_VALUE), -2);
        Checks.due("the value stays behind -2", x.inside(0, 0), 1);
        Checks.due("64 bits", Tape.value(x, "4L"), 18);
        Checks.due("another value", x.inside(0, 0), 0);
        Checks.due("a truth", Tape.value(x, "true"), 8);
        Checks.due("nothing", Tape.value(x, "null"), 10);
        Checks.due("a text", Tape.value(x, "'abc'"), 2);
        Checks.due("a document", Tape.value(x, "{$x: 1}"), 3);
        Checks.due("a row", Tape.value(x, "[1]"), 4);
        Checks.due("the first of more", Tape.value(x, Val.of("{'': 7, b: 'x'}").bytes()), 16);
        Checks.due("that is inside", x.inside(0, 0), 1);
        Tape.filter(x, "{a: {$lt: 5}}");
        Checks.due("it stays behind another filter", x.inside(0, 0), 0);
        Checks.due("without elements", Tape.value(x, Val.of("{}").bytes()), -1);
        Checks.due("no value behind -1", x.inside(0, 0), -1);
        Tape.value(x, "1");
        Checks.due("inside", x.inside(0, 0), 1);
        Checks.due("no bytes", x.value(0), -1);
        Checks.due("no value behind no bytes", x.inside(0, 0), -1);
        Tape.value(x, "1");
        x.feed(0x07000000, 0x0A610000, 0, 0, 0);
        Checks.due("a wrong document", x.value(7), -1);
        Checks.due("no value behind it", x.inside(0, 0), -1);
        Checks.due("the tape is empty behind it", x.feed(0x08000000, 0x0A610000, 0, 0, 0), 20);
        Checks.due("more than there are", x.value(21), -2);
        Checks.due("not just that", x.value(9), -1);
        x.feed(0x08000000, 0x0A610000, 0, 0, 0);
        Checks.due("just that", x.value(8), 10);
        Checks.finish("ValueTest");
    }
}
