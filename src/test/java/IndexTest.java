import java.util.Arrays;

/** Promise 3: index. */
public final class IndexTest {
    private static final int LEAST = Integer.MIN_VALUE;
    private static final int GREATEST = Integer.MAX_VALUE;

    public static void main(String[] args) {
        numbers();
        oneThatWasThere();
        firstAndSecondBytes();
        noSecondPath();
        how();
        theTapeIsEmpty();
        whatIsBehindThem();
        doingNothing();
        justAsManyAsThereAre();
        noPath();
        bothTheSame();
        howWithoutSecond();
        minusOneBeforeMinusTwo();
        Checks.finish("IndexTest");
    }

    private static void numbers() {
        Checks.by("Index i, 0 to 7");
        Planner x = new Planner();
        Tape.filter(x, "{p3: 1}");
        for (int i = 0; i < 8; i++) {
            Checks.due("index " + i, Tape.index(x, i, "p" + i, "", 0), 0);
        }
        for (int i = 0; i < 8; i++) {
            Checks.due("rank of " + i, x.rank(i), i == 3 ? 2 : 0);
        }
        Checks.due("choose", x.choose(), 3);
    }

    private static void oneThatWasThere() {
        Checks.by("(one that was there is no more)");
        Planner x = new Planner();
        Tape.filter(x, "{a: {$in: [1, 2, 3], $gte: 2}, b: {$gt: 1}}");
        Tape.index(x, 7, "a", "b", 1 + 2 + 4 + 8);
        Checks.due("rank of a, b", x.rank(7), 3);
        Checks.due("a, MANY-KEYED", x.many(7, 0), 3);
        Checks.due("b anew", Tape.index(x, 7, "b", "", 0), 0);
        Checks.due("rank of b", x.rank(7), 1);
        Checks.due("no second path any more", x.many(7, 1), -2);
        Checks.due("a anew", Tape.index(x, 7, "a", "", 0), 0);
        Checks.due("not MANY-KEYED any more", x.many(7, 0), 2);
        Checks.due("not DOWN any more", x.end(7, 0, 0, true, 3) < x.end(7, 0, 1, true, 3), true);
        Checks.due("c anew", Tape.index(x, 7, "c", "a", 0), 0);
        Checks.due("c is FREE", x.many(7, 0), -1);
        Checks.due("it goes once only", x.drop(7), true);
        Checks.due("and no more", x.drop(7), false);
    }

    private static void firstAndSecondBytes() {
        Checks.by("the first n bytes of the tape are its first path, the next m its second one");
        Planner x = new Planner();
        Tape.filter(x, "{ab: {$in: [1, 2]}, cde: {$in: [1, 2, 3]}, b: 1, e: 1}");
        Tape.feed(x, Val.utf8("abcdef"));
        Checks.due("index", x.index(0, 2, 3, 0), 0);
        Checks.due("ab", x.many(0, 0), 2);
        Checks.due("cde", x.many(0, 1), 3);
    }

    private static void noSecondPath() {
        Checks.by("(m is 0: it has none)");
        Planner x = new Planner();
        Tape.filter(x, "{a: 1, b: 1}");
        Tape.value(x, "1");
        Tape.feed(x, Val.utf8("ab"));
        Checks.due("index", x.index(0, 1, 0, 0), 0);
        Checks.due("many", x.many(0, 1), -2);
        Checks.due("end", x.end(0, 1, 0, false, 0), -2);
        Checks.due("inside", x.inside(0, 1), -1);
        Checks.due("rank", x.rank(0), 2);
    }

    private static void how() {
        Checks.by("how is the sum of 1 when the first one goes DOWN, 2 the second one, "
                + "4 when the first one is MANY-KEYED, 8 the second one");
        for (int how = 0; how < 16; how++) {
            Planner x = new Planner();
            Checks.due("index", Tape.index(x, 0, "a", "b", how), 0);
            Tape.filter(x, "{a: {$in: [1, 2, 3], $gte: 2}, b: {$in: [1, 2, 3], $gte: 2}}");
            Checks.due("first MANY-KEYED " + how, x.many(0, 0), (how & 4) != 0 ? 3 : 2);
            Checks.due("second MANY-KEYED " + how, x.many(0, 1), (how & 8) != 0 ? 3 : 2);
            boolean firstDown = x.end(0, 0, 0, true, 3) > x.end(0, 0, 1, true, 3);
            boolean secondDown = x.end(0, 1, 0, true, 3) > x.end(0, 1, 1, true, 3);
            Checks.due("first DOWN " + how, firstDown, (how & 1) != 0);
            Checks.due("second DOWN " + how, secondDown, (how & 2) != 0);
        }
    }

    private static void theTapeIsEmpty() {
        Checks.by("index: 0, and the tape is empty.");
        Planner x = new Planner();
        Tape.feed(x, Val.utf8("abcdefghijklmnopqrst"));
        Checks.due("index of all bytes", x.index(0, 10, 10, 0), 0);
        Checks.due("index of one more", x.index(1, 1, 0, 0), -1);
        Scene.hasEmptyTape("index", x);
    }

    private static void whatIsBehindThem() {
        Checks.by("(What is on the tape behind them is gone, too.)");
        Planner x = new Planner();
        Tape.feed(x, Val.utf8("abcdefghijklmnopqrstABCDEFGHIJKLMNOPQRST"));
        Checks.due("index of two bytes of 40", x.index(0, 1, 1, 0), 0);
        Checks.due("index of one more", x.index(1, 1, 0, 0), -1);
        Scene.hasEmptyTape("index", x);
    }

    private static void nothingBy(String sentence, int[]... calls) {
        Checks.by(sentence);
        for (int[] c : calls) {
            Planner x = Scene.made();
            String call = "index" + Arrays.toString(c);
            Checks.due(call, x.index(c[0], c[1], c[2], c[3]), -1);
            Scene.hasAll(call, x);
        }
    }

    /** There are 20 bytes on the tape. */
    private static void doingNothing() {
        nothingBy("-1, doing nothing, when there is no such number",
                new int[] {-1, 1, 0, 0}, new int[] {8, 1, 0, 0}, new int[] {16, 1, 0, 0},
                new int[] {LEAST, 1, 0, 0}, new int[] {GREATEST, 1, 0, 0});
        nothingBy("-1, doing nothing, when n is below 1",
                new int[] {0, 0, 0, 0}, new int[] {0, 0, 1, 0}, new int[] {0, -1, 0, 0},
                new int[] {0, -1, 2, 0}, new int[] {0, LEAST, 0, 0}, new int[] {0, LEAST, GREATEST, 0});
        nothingBy("-1, doing nothing, when m is below 0",
                new int[] {0, 1, -1, 0}, new int[] {0, 20, -1, 0}, new int[] {0, 21, -1, 0},
                new int[] {0, 1, LEAST, 0}, new int[] {5, GREATEST, LEAST, 0});
        nothingBy("-1, doing nothing, when both are more than there are",
                new int[] {0, 21, 0, 0}, new int[] {0, 20, 1, 0}, new int[] {0, 1, 20, 0},
                new int[] {0, 11, 10, 0}, new int[] {0, 2000, 0, 0});
        nothingBy("-1, doing nothing, when both are more than there are: the sum wraps around",
                new int[] {0, GREATEST, GREATEST, 0}, new int[] {0, GREATEST, 2, 0},
                new int[] {0, 1, GREATEST, 0}, new int[] {0, GREATEST, 1, 0},
                new int[] {0, GREATEST, 0, 0});
        nothingBy("-1, doing nothing, when how is not 0 .. 15",
                new int[] {0, 1, 1, -1}, new int[] {0, 1, 1, 16}, new int[] {0, 1, 0, 17},
                new int[] {0, 1, 1, LEAST}, new int[] {0, 1, 1, GREATEST});
    }

    private static void justAsManyAsThereAre() {
        Checks.by("both not more than there are: just as many, and not one more");
        int[][] right = {{1, 19}, {19, 1}, {20, 0}, {10, 10}, {1, 0}, {1, 1}};
        for (int[] nm : right) {
            Planner x = new Planner();
            Tape.feed(x, Val.utf8("abcdefghijklmnopqrst"));
            Checks.due("index of 21", x.index(0, nm[0], 21 - nm[0], 0), -1);
            Checks.due("index" + Arrays.toString(nm), x.index(0, nm[0], nm[1], 0), 0);
        }
        Planner x = new Planner();
        byte[] longest = new byte[2000];
        Arrays.fill(longest, (byte) 'a');
        Checks.due("a path of 2000", Tape.index(x, 2, longest, new byte[0], 0), 0);
        Checks.due("two of 2000", Tape.index(x, 3, Arrays.copyOf(longest, 1999), Val.utf8("a"), 0), 0);
    }

    /** -2: the index there is stays, and the tape is empty. */
    private static void refused(byte[] first, byte[] second, int how) {
        String what = "index " + Arrays.toString(first) + Arrays.toString(second) + how;
        for (int i : new int[] {0, 3, 5}) {
            Planner x = Scene.withoutTape();
            Checks.due(what, Tape.index(x, i, first, second, how), -2);
            Scene.hasIndexesAndFilter(what, x);
            Scene.hasValue(what, x);
            Scene.hasEmptyTape(what, x);
        }
    }

    private static void noPath() {
        Checks.by("-2, when one of them is no path "
                + "(the tape is empty then, and the index there is stays)");
        for (String path : new String[] {".", "a.b.c.d.e.f.g.h.i", "a\0"}) {
            refused(Val.utf8(path), new byte[0], 0);
            refused(Val.utf8(path), Val.utf8("b"), 0);
            refused(Val.utf8("b"), Val.utf8(path), 0);
            refused(Val.utf8(path + "."), Val.utf8(path), 0);
        }
        Checks.by("-2, when one of them is no path: a character that lies in both");
        refused(Tape.hex("61 C3"), Tape.hex("A9 61"), 0);
        refused(Tape.hex("E2 82"), Tape.hex("AC"), 0);
    }

    private static void bothTheSame() {
        Checks.by("-2, when both are the same "
                + "(the tape is empty then, and the index there is stays)");
        refused(Val.utf8("a"), Val.utf8("a"), 0);
        refused(Val.utf8("a"), Val.utf8("a"), 15);
        refused(Val.utf8("b.a"), Val.utf8("b.a"), 0);
        refused(Val.utf8("\u00e9"), Val.utf8("\u00e9"), 8);
        Checks.by("both the same: not those that differ in a byte or in their length");
        String[][] different = {
            {"a", "A"}, {"a", "aa"}, {"aa", "a"}, {"a.b", "b.a"}, {"a", "a.a"}, {"ab", "ac"},
            {"\u00e9", "\u00ea"}, {"0", "00"}, {"a", "a "},
        };
        for (String[] pair : different) {
            Checks.due("index " + pair[0] + ", " + pair[1],
                    Tape.index(new Planner(), 0, pair[0], pair[1], 0), 0);
        }
    }

    private static void howWithoutSecond() {
        Checks.by("-2, when 2 or 8 are in how and there is no second one "
                + "(the tape is empty then, and the index there is stays)");
        for (int how = 0; how < 16; how++) {
            if ((how & (2 + 8)) != 0) {
                refused(Val.utf8("c"), new byte[0], how);
            } else {
                Checks.due("index c by how " + how, Tape.index(new Planner(), 0, "c", "", how), 0);
            }
        }
    }

    private static void minusOneBeforeMinusTwo() {
        nothingBy("-1, doing nothing: also when they are no paths, or how has 2 without a second one",
                new int[] {0, 4, 2, 16}, new int[] {8, 4, 0, 0}, new int[] {-1, 1, 0, 2},
                new int[] {0, 21, 0, 8}, new int[] {0, 0, 0, 2}, new int[] {0, 4, -1, 10});
    }
}
