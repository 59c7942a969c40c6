import java.util.Arrays;

/** Promise 3: index. */
public final class IndexTest {
    public static void main(String[] args) {
        refusedDoingNothing();
        noPaths();
        rightPaths();
        replaced();
        howGoes();
        Checks.finish("IndexTest");
    }

    private static void refusedDoingNothing() {
        BoundsPlanner x = new BoundsPlanner();
        x.feed(0x61620000, 0, 0, 0, 0);
        int big = Integer.MAX_VALUE;
        int[][] wrong = {
            {-1, 1, 1, 0}, {8, 1, 1, 0}, {0, 0, 1, 0}, {0, -1, 1, 0}, {0, 1, -1, 0}, {0, 1, 20, 0},
            {0, 21, 0, 0}, {0, 20, 1, 0}, {0, big, big, 0}, {0, big, 2, 0}, {0, 1, big, 0},
            {0, 1, 1, -1}, {0, 1, 1, 16}, {big, 1, 1, 0}, {Integer.MIN_VALUE, 1, 1, 0},
            {0, Integer.MIN_VALUE, 1, 0}, {0, 1, Integer.MIN_VALUE, 0},
            {0, 1, 1, big}, {0, 1, 1, Integer.MIN_VALUE},
        };
        for (int[] w : wrong) {
            Checks.due("index" + Arrays.toString(w), x.index(w[0], w[1], w[2], w[3]), -1);
        }
        Checks.due("the tape is as it was", x.index(0, 1, 1, 0), 0);
        Checks.due("the tape is empty", x.index(0, 1, 0, 0), -1);
        Checks.due("what was behind is gone", x.feed(0, 0, 0, 0, 0), 20);
    }

    private static void noPaths() {
        String[] wrong = {
            ".", "a.", ".a", "a..b", "a.b.c.d.e.f.g.h.i", "a\0", "\0", "a.\0.b", "a.b.",
        };
        for (String path : wrong) {
            refused(Val.utf8(path), new byte[0], 0);
            refused(Val.utf8(path), Val.utf8("b"), 0);
            refused(Val.utf8("b"), Val.utf8(path), 0);
        }
        String[] wrongUtf8 = {
            "80", "BF", "C3", "C0 80", "C1 BF", "61 C3 2E 62", "E0 9F BF", "ED A0 80", "ED BF BF",
            "E2 82", "F0 8F BF BF", "F4 90 80 80", "F0 9F 98", "F5 80 80 80", "F8 88 80 80 80",
            "FF", "FE", "C3 28", "E2 28 A1", "F0 28 8C BC", "61 80",
        };
        for (String hex : wrongUtf8) {
            refused(Tape.hex(hex), new byte[0], 0);
            refused(Val.utf8("b"), Tape.hex(hex), 0);
        }
        refused(Val.utf8("a"), Val.utf8("a"), 0);
        refused(Val.utf8("a.b"), Val.utf8("a.b"), 15);
        refused(Val.utf8("a"), new byte[0], 2);
        refused(Val.utf8("a"), new byte[0], 8);
        refused(Val.utf8("a"), new byte[0], 15);
    }

    /** -2 leaves the index that there is, and an empty tape. */
    private static void refused(byte[] first, byte[] second, int how) {
        BoundsPlanner x = new BoundsPlanner();
        String what = Arrays.toString(first) + Arrays.toString(second) + how;
        Tape.index(x, 0, "old", "", 0);
        Checks.due("index " + what, Tape.index(x, 0, first, second, how), -2);
        Checks.due("feed behind " + what, x.feed(0, 0, 0, 0, 0), 20);
        x.value(0);
        Checks.due("filter", Tape.filter(x, "{old: 1}"), 0);
        Checks.due("the old one behind " + what, x.rank(0), 2);
        Checks.due("its second path behind " + what, x.many(0, 1), -2);
    }

    private static void rightPaths() {
        BoundsPlanner x = new BoundsPlanner();
        String[] right = {
            "a", "a.b.c.d.e.f.g.h", "$a", "a.$b", "0", " ", "\u00e9", "\u20ac.\ud83d\ude00",
            "\u0080", "\u07ff", "\u0800", "\ud7ff", "\ue000", "\uffff", "\ud800\udc00",
            "\udbff\udfff", "\u007f", "\u0001",
        };
        for (String path : right) {
            Checks.due("index " + path, Tape.index(x, 1, path, "", 5), 0);
            Checks.due("index z, " + path, Tape.index(x, 1, "z", path, 15), 0);
            Checks.due("index " + path + ", z", Tape.index(x, 1, path, "z", 0), 0);
        }
        byte[] longest = new byte[2000];
        Arrays.fill(longest, (byte) 'a');
        Checks.due("a path of 2000 bytes", Tape.index(x, 2, longest, new byte[0], 0), 0);
        Checks.due("two of 2000 bytes", Tape.index(x, 3, Arrays.copyOf(longest, 1500),
                Arrays.copyOf(longest, 500), 0), 0);
        Checks.due("two of 2000 bytes, the same", Tape.index(x, 3, Arrays.copyOf(longest, 1000),
                Arrays.copyOf(longest, 1000), 0), -2);
    }

    private static void replaced() {
        BoundsPlanner x = new BoundsPlanner();
        Tape.filter(x, "{a: 1, b: {$gt: 1}}");
        Checks.due("a, b", Tape.index(x, 7, "a", "b", 0), 0);
        Checks.due("rank of a, b", x.rank(7), 3);
        Checks.due("many of b", x.many(7, 1), 1);
        Checks.due("b", Tape.index(x, 7, "b", "", 0), 0);
        Checks.due("rank of b", x.rank(7), 1);
        Checks.due("no second path any more", x.many(7, 1), -2);
        Checks.due("$a", Tape.index(x, 7, "$a", "", 0), 0);
        Checks.due("$a is free", x.many(7, 0), -1);
    }

    private static void howGoes() {
        for (int how = 0; how < 16; how++) {
            BoundsPlanner x = new BoundsPlanner();
            Checks.due("index", Tape.index(x, 0, "a", "b", how), 0);
            Tape.filter(x, "{a: {$in: [1, 2, 3], $gte: 2}, b: {$in: [1, 2, 3], $gte: 2}}");
            Checks.due("first MANY " + how, x.many(0, 0), (how & 4) != 0 ? 3 : 2);
            Checks.due("second MANY " + how, x.many(0, 1), (how & 8) != 0 ? 3 : 2);
            boolean firstDown = x.end(0, 0, 0, true, 3) > x.end(0, 0, 1, true, 3);
            boolean secondDown = x.end(0, 1, 0, true, 3) > x.end(0, 1, 1, true, 3);
            Checks.due("first DOWN " + how, firstDown, (how & 1) != 0);
            Checks.due("second DOWN " + how, secondDown, (how & 2) != 0);
        }
    }
}
