import com.sun.management.ThreadMXBean;
import java.lang.management.ManagementFactory;

/**
 * What the dearest runs of calls make stays far below the room that all calls of a run share:
 * 600,000 objects and arrays, 7,300,000 fields and elements. Bytes are measured: an object has at
 * least 16 of them, a field or element at least one.
 */
public final class RoomTest {
    private static final long MOST_BYTES_MADE = 2_000_000;
    private static final ThreadMXBean THREADS =
            (ThreadMXBean) ManagementFactory.getThreadMXBean();

    public static void main(String[] args) {
        play("the room is measured", new Run());
        indexSaidAgain();
        bothPathsSaidAgain();
        longFilters();
        filtersOfManyPaths();
        shortFilters();
        longValues();
        askedAgain();
        Checks.finish("RoomTest");
    }

    private static long bytesMadeBy(Run run) {
        long before = THREADS.getCurrentThreadAllocatedBytes();
        run.play();
        return THREADS.getCurrentThreadAllocatedBytes() - before;
    }

    private static void play(String what, Run run) {
        long made = bytesMadeBy(run);
        Checks.due(what + ": made " + made + " bytes, at most", made <= MOST_BYTES_MADE, true);
        Checks.due(what + ": measured", made > 0, true);
    }

    /** A $and of a long $in and so many filters with the same four comparisons. */
    private static byte[] manyThatMeet(String path, int items, int comparisons) {
        Val in = new Val(4);
        for (int i = 0; i < items; i++) {
            in.item(Val.whole(i));
        }
        Val filters = new Val(4);
        filters.item(new Val(3).with(path, new Val(3).with("$in", in)));
        for (int i = 0; i < comparisons; i++) {
            filters.item(new Val(3).with(path, Val.of("{$gt: -5, $gte: -5, $lt: 5000, $lte: 5000}")));
        }
        return new Val(3).with("$and", filters).bytes();
    }

    private static void indexSaidAgain() {
        byte[] filter = manyThatMeet("a", 114, 19);
        Checks.due("bytes of the filter", filter.length, 1994);
        Run run = new Run().filter(filter);
        for (int i = 0; i < 137; i++) {
            run.index(0, "a", "", 0).many(0, 0);
        }
        Checks.due("calls left", run.left(), 0);
        play("an index said again and again", run);
        for (int i = 0; i < 100; i++) {
            Checks.due("feed " + i, run.answer(i), 20 * (i + 1));
        }
        Checks.due("filter", run.answer(100), 0);
        for (int i = 0; i < 137; i++) {
            Checks.due("feed " + i, run.answer(101 + 3 * i), 20);
            Checks.due("index " + i, run.answer(102 + 3 * i), 0);
            Checks.due("many " + i, run.answer(103 + 3 * i), 114);
        }
    }

    private static void bothPathsSaidAgain() {
        for (int how = 0; how < 16; how++) {
            Run run = new Run().filter(manyThatMeet("a", 114, 19));
            for (int i = 0; run.left() >= 3; i++) {
                run.index(i % 8, i % 2 == 0 ? "a" : "b", i % 2 == 0 ? "b" : "a", how).choose();
            }
            play("both paths said again and again by how " + how, run);
        }
    }

    private static String repeated(String head, String part, int times, String tail) {
        StringBuilder out = new StringBuilder(head);
        for (int i = 0; i < times; i++) {
            out.append(part.replace("#", Integer.toString(i))).append(i + 1 < times ? ", " : "");
        }
        return out.append(tail).toString();
    }

    private static byte[] bytes(String document) {
        byte[] bytes = Val.of(document).bytes();
        Checks.due(document + " fits on the tape", bytes.length <= 2000, true);
        return bytes;
    }

    /** Filters that are long in several ways, and all eight indexes asked behind each. */
    private static void longFilters() {
        String elem = "{a: {$elem: {$gt: 0, $gte: 0, $lt: 99, $lte: 99, $in: [1, 2, 3, 4]}}}";
        byte[][] filters = {
            manyThatMeet("a", 114, 19),
            manyThatMeet("a", 150, 12),
            manyThatMeet("a", 60, 19),
            bytes(repeated("{a: {$in: [", "#", 210, "]}}")),
            bytes(repeated("{a: {$in: [", "null", 415, "]}}")),
            bytes(repeated("{a: {$in: [", "{}", 180, "]}}")),
            bytes(repeated("{a: {$in: [", "'x#'", 130, "]}}")),
            bytes(repeated("{a: {$elem: {$gte: 0, $in: [", "#", 206, "], $lt: 999}}}")),
            bytes(repeated("{$and: [", elem, 12, "]}")),
            bytes(repeated("{$and: [", "{a: 1}", 33, "]}")),
            bytes(repeated("{$and: [", "{a: {$gt: #, $lt: 99}}", 33, "]}")),
            bytes(repeated("{", "a#: {$gt: #}", 50, "}")),
            bytes(repeated("{", "a#: #", 50, "}")),
            bytes(repeated("{a: {", "n#: null", 320, "}}")),
            bytes(repeated("{a: {", "$#: null", 330, "}}")),
            bytes(repeated("{$or: [", "{}", 170, "]}")),
        };
        for (int i = 0; i < filters.length; i++) {
            Run run = withEightIndexes();
            while (run.left() > Run.feedsOf(filters[i].length) + 1) {
                run.filter(filters[i]).choose();
            }
            play("long filter " + i, run);
        }
    }

    /** Filters of so many paths, each with a name of one byte and of the least length. */
    private static byte[] manyPaths(int paths) {
        Val filter = new Val(3);
        for (int i = 0; i < paths; i++) {
            filter.with(String.valueOf((char) ('A' + i)), new Val(10));
        }
        return filter.bytes();
    }

    private static void filtersOfManyPaths() {
        for (int paths = 1; paths <= 50; paths++) {
            byte[] bytes = manyPaths(paths);
            Run run = new Run().index(0, "A", "B", 0);
            while (run.left() > Run.feedsOf(bytes.length)) {
                run.filter(bytes);
            }
            play(paths + " paths", run);
        }
    }

    private static Run withEightIndexes() {
        Run run = new Run();
        for (int i = 0; i < 8; i++) {
            run.index(i, i % 2 == 0 ? "a" : "b", i % 2 == 0 ? "b" : "a", 2 * i);
        }
        return run;
    }

    private static void shortFilters() {
        String[] filters = {
            "{}", "{a: 1}", "{a: true}", "{a: null}", "{a: {$in: []}}", "{a: {$gt: 1}}",
            "{a: {$in: [1, 2]}, b: 1}", "{$and: [{a: {$gt: 1, $gte: 0, $lt: 9, $lte: 10}}]}",
            "{a: {$in: [null, null, null, null, null, null, null, null, null]}}",
        };
        for (String filter : filters) {
            Run run = withEightIndexes();
            byte[] bytes = bytes(filter);
            while (run.left() > Run.feedsOf(bytes.length) + 1) {
                run.filter(bytes).choose();
            }
            play("short filter " + filter, run);
        }
        Run run = new Run();
        while (run.left() > 0) {
            run.filter(new byte[0]);
        }
        play("no bytes as filter", run);
    }

    private static void longValues() {
        byte[][] values = {
            bytes(repeated("{", "n#: null", 320, "}")), bytes(repeated("{a: [", "null", 390, "]}")),
            bytes(repeated("{a: [", "{}", 180, "]}")), bytes("{a: 1}"), bytes("{}"),
        };
        for (int i = 0; i < values.length; i++) {
            Run run = new Run().filter(bytes("{a: {$lt: {}}}")).index(0, "a", "", 0);
            while (run.left() > Run.feedsOf(values[i].length) + 1) {
                run.value(values[i]).inside(0, 0);
            }
            play("value " + i, run);
        }
    }

    private static Run toBeAsked() {
        Run run = withEightIndexes().filter(manyThatMeet("b", 114, 19));
        return run.value(bytes("{v: 5}"));
    }

    /** Questions make nothing, however many there are. */
    private static void askedAgain() {
        Run unasked = toBeAsked();
        Run asked = toBeAsked();
        for (int i = 0; asked.left() >= 8; i++) {
            asked.many(i % 8, 0).many(i % 8, 1).rank(i % 8).ranges(i % 8).choose();
            asked.inside(i % 8, i % 2).end(i % 8, 0, i, false, 3).end(i % 8, 1, i, true, 2);
        }
        play("everything asked again and again", asked);
        play("nothing asked", unasked);
        // less than one object for each question; the machine may spare some of its own accord
        long made = bytesMadeBy(asked) - bytesMadeBy(unasked);
        Checks.due("questions made " + made + " bytes", made < 16 * (unasked.left() - 8), true);
    }
}
