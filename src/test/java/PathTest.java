import java.util.Arrays;

/** PATH, as a path of an index and as a name in a filter; its characters are in Utf8Test. */
public final class PathTest {
    public static void main(String[] args) {
        steps();
        noneEmpty();
        withoutAZero();
        anyOtherName();
        Checks.finish("PathTest");
    }

    private static void path(boolean right, String... paths) {
        for (String path : paths) {
            ofAnIndex(path, right);
            if (path.indexOf('\0') < 0) {
                inAFilter(path, right);
            }
        }
    }

    private static void ofAnIndex(String path, boolean right) {
        int want = right ? 0 : -2;
        byte[] bytes = Val.utf8(path);
        String what = path + Arrays.toString(bytes);
        Planner x = new Planner();
        if (bytes.length > 0) {
            Checks.due("index " + what, Tape.index(x, 0, bytes, new byte[0], 5), want);
            Checks.due("index " + what + ", z", Tape.index(x, 0, bytes, Val.utf8("z"), 0), want);
            Checks.due("index z, " + what, Tape.index(x, 0, Val.utf8("z"), bytes, 15), want);
        }
    }

    private static void inAFilter(String path, boolean right) {
        int want = right ? 0 : 3;
        Val filter = new Val(3).with(path, Val.of("{$gt: 5}"));
        Checks.due("filter " + path, Tape.filter(new Planner(), filter.bytes()), want);
        Val joined = new Val(3).with("$or", new Val(4).item(filter));
        Checks.due("filter $or " + path, Tape.filter(new Planner(), joined.bytes()), want);
        Val elem = new Val(3).with("a", new Val(3).with("$elem", new Val(3).with("b", new Val(10)).with(path, Val.whole(1))));
        Checks.due("filter $elem " + path, Tape.filter(new Planner(), elem.bytes()), want);
        Planner x = new Planner();
        Tape.filter(x, filter.bytes());
        if (right) {
            Tape.index(x, 0, path, "z", 0);
            Checks.due("rank of " + path, x.rank(0), 1);
        }
    }

    private static void steps() {
        Checks.by("PATH: 1 to 8 STEPS");
        path(true, "a", "a.b", "a.b.c", "a.b.c.d.e.f.g", "a.b.c.d.e.f.g.h", "1.1.1.1.1.1.1.1",
                "abc.def.ghi.jkl.mno.pqr.stu.vwx");
        path(false, "a.b.c.d.e.f.g.h.i", "1.1.1.1.1.1.1.1.1", "a.b.c.d.e.f.g.h.i.j", "a.".repeat(20) + "a");
    }

    private static void noneEmpty() {
        Checks.by("PATH: STEPS, none of them empty");
        path(false, "", ".", "..", "a.", ".a", "a..b", "a.b.", ".a.b", "a.b..c", "a...b",
                "a.b.c.d.e.f.g.", ".b.c.d.e.f.g.h", "a.b.c.d..f.g.h", "a.b.c.d.e.f.g.h.");
    }

    private static void withoutAZero() {
        Checks.by("PATH: of right UTF-8 without a 0");
        path(false, "\0", "a\0", "\0a", "a.\0", "a.b\0c", "a.\0.b", "\0.a");
        path(true, "\u0001", "a\u0001", "0", "a.0", "00");
    }

    private static void anyOtherName() {
        Checks.by("A PATH is names with a point between two of them: any other characters");
        path(true, " ", " . ", "a$", "a$.b$", "a.b$c", "-", "\u00b7", "\uff0e", "'", "\"", "a b.c d",
                "\u00e9.\u20ac.\ud83d\ude00", "0.1.2", "n".repeat(1500));
        Checks.by("PATH of an index: a step may begin with $ (only in a filter it may not)");
        ofAnIndex("$a", true);
        ofAnIndex("a.$b", true);
        ofAnIndex("$", true);
        ofAnIndex("$and", true);
        Planner x = new Planner();
        Tape.index(x, 0, "$a", "$and", 0);
        Tape.filter(x, "{a: 1, $and: [{a: 1}]}");
        Checks.due("$a is FREE", x.many(0, 0), -1);
        Checks.due("$and is FREE", x.many(0, 1), -1);
    }
}
