import java.util.Random;

/** Any calls with any arguments in any state (always the same ones): no call throws. */
public final class WildCallsTest {
    /** More calls than one wild() makes. */
    private static final int MOST_AT_ONCE = 20;
    private static final int[] ODD = {
        Integer.MIN_VALUE, -2, -1, 0, 1, 2, 3, 7, 8, 15, 16, 20, 40, 2000, Integer.MAX_VALUE,
    };
    private static final String[] DOCUMENTS = {
        "{a: {$in: [1, 2L, 'x', null, true, {}]}, b: {$gt: 1}}", "{$and: [{a: 1}, {a.b: {$elem: {$lt: 5}}}]}",
        "{a: {$not: {$elem: {$or: [{a: 1}]}}}}", "{a: {b: [1, [2, {c: 'y'}]]}}", "{}",
    };

    public static void main(String[] args) {
        Random random = new Random(1);
        for (int run = 0; run < 2000; run++) {
            Planner x = new Planner();
            while (x.callsLeft() > MOST_AT_ONCE) {
                wild(x, random);
            }
            Checks.due("a call behind all of it", x.choose() >= -2 && x.choose() < 8, true);
        }
        Checks.finish("WildCallsTest");
    }

    private static int any(Random random) {
        int which = random.nextInt(10);
        return which == 0 ? random.nextInt() : which < 4 ? ODD[random.nextInt(ODD.length)] : random.nextInt(8);
    }

    private static void wild(Planner x, Random random) {
        switch (random.nextInt(12)) {
            case 0: x.feed(any(random), any(random), any(random), any(random), any(random)); break;
            case 1: x.index(any(random), any(random), any(random), any(random)); break;
            case 2: Tape.index(x, any(random), "a", random.nextBoolean() ? "b" : "", any(random)); break;
            case 3: x.drop(any(random)); break;
            case 4: x.filter(any(random)); break;
            case 5: x.value(any(random)); break;
            case 6: changed(x, random); break;
            case 7: x.many(any(random), any(random)); break;
            case 8: x.end(any(random), any(random), any(random), random.nextBoolean(), any(random)); break;
            case 9: x.inside(any(random), any(random)); break;
            case 10: x.rank(any(random)); x.ranges(any(random)); break;
            default: x.choose(); break;
        }
    }

    /** A document with up to two bytes changed, as the filter or the value. */
    private static void changed(Planner x, Random random) {
        byte[] bytes = Val.of(DOCUMENTS[random.nextInt(DOCUMENTS.length)]).bytes();
        for (int i = random.nextInt(3); i > 0; i--) {
            bytes[random.nextInt(bytes.length)] = (byte) any(random);
        }
        // -2 of index empties the tape and changes nothing else
        x.index(0, 1, 0, 2);
        if (random.nextInt(3) > 0) {
            Tape.filter(x, bytes);
        } else {
            Tape.value(x, bytes);
        }
    }
}
