import java.util.Arrays;

/** Promises 5 and 6: which bytes are a document (its texts are in Utf8Test). */
public final class DocumentTest {
    private static final int GREATEST = Integer.MAX_VALUE;

    public static void main(String[] args) {
        size();
        lastZero();
        kinds();
        names();
        namesAreDifferent();
        wholeNumbers();
        truthsAndNothing();
        texts();
        innerDocuments();
        rows();
        mostBytes();
        depth();
        everyChangedByte();
        Checks.finish("DocumentTest");
    }

    private static void check(String what, byte[] bytes, boolean right) {
        Planner x = new Planner();
        int kind = bytes.length > 5 ? bytes[4] : -1;
        Checks.due("value of " + what, Tape.value(x, bytes), right ? kind : -1);
        Checks.due("filter of " + what, Tape.filter(x, bytes) == -1, !right);
        Checks.due("oracle of " + what, Oracle.isDocument(bytes), right);
    }

    private static void whole(boolean right, String... hexes) {
        for (String hex : hexes) {
            check(hex, Tape.hex(hex), right);
        }
    }

    /** A value of this kind with these bytes, everywhere where one can stand. */
    private static void value(boolean right, int kind, String hex) {
        String what = "kind " + kind + ", " + hex;
        byte[] bytes = Tape.hex(hex);
        check(what, new Val(3).with("a", Val.raw(kind, bytes)).bytes(), right);
        // what stands behind it is so long that no value that is too short ends with it
        check(what + " in the middle", new Val(3).with("y", new Val(10))
                .with("a", Val.raw(kind, bytes)).with("zzzzzzzzzzzz", Val.whole(-1)).bytes(), right);
        check(what + " in a document", new Val(3).with("d", new Val(3)
                .with("a", Val.raw(kind, bytes))).bytes(), right);
        check(what + " in a row", new Val(3).with("r", new Val(4).item(new Val(10))
                .item(Val.raw(kind, bytes))).bytes(), right);
    }

    private static void size() {
        Checks.by("its SIZE (4 bytes; it counts all of it, itself and the last 0)");
        whole(true, "05 00 00 00 00", "07 00 00 00 0A 00 00", "08 00 00 00 0A 61 00 00");
        whole(false, "", "00", "05", "05 00", "05 00 00", "05 00 00 00", "04 00 00 00");
        whole(false, "04 00 00 00 00", "06 00 00 00 00", "06 00 00 00 00 00", "00 00 00 00 00",
                "05 00 00 00 00 00", "03 00 00 00 00", "01 00 00 00 00",
                "07 00 00 00 0A 61 00 00", "09 00 00 00 0A 61 00 00", "08 00 00 00 0A 61 00 00 00",
                "09 00 00 00 0A 61 00 00 00");
        Checks.by("SIZE: as great as it gets, and below 0");
        whole(false, "FF FF FF FF 00", "FF FF FF 7F 00", "00 00 00 80 00", "05 00 00 80 00",
                "05 01 00 00 00", "05 00 01 00 00", "05 00 00 01 00");
        Checks.by("(numbers with their lowest byte first): SIZE");
        whole(false, "00 00 00 05 00", "00 05 00 00 00", "00 00 00 08 0A 61 00 00");
        byte[] big = new Val(3).with("a", Val.text("x".repeat(300))).bytes();
        check("a document of " + big.length, big, true);
        big[1] = 0;
        check("the same without its second byte of size", big, false);
    }

    private static void lastZero() {
        Checks.by("BYTES OF A DOCUMENT: its ELEMENTS, a byte 0");
        whole(false, "05 00 00 00 01", "05 00 00 00 0A", "05 00 00 00 FF", "08 00 00 00 0A 61 00 01",
                "08 00 00 00 0A 61 00 0A", "07 00 00 00 0A 61 00", "0B 00 00 00 10 61 00 01 00 00 00");
        whole(false, "09 00 00 00 0A 61 00 00 00", "09 00 00 00 00 0A 61 00 00");
    }

    private static void kinds() {
        Checks.by("its VALUE by the kind: 16, 18, 8, 10, 2, 3, 4 and no other");
        for (int kind = 0; kind < 256; kind++) {
            value(kind == 10, kind, "");
            value(kind == 8, kind, "00");
            value(kind == 16, kind, "01 02 03 04");
            value(kind == 18, kind, "01 02 03 04 05 06 07 08");
            value(kind == 2 || kind == 18, kind, "04 00 00 00 61 61 61 00");
            value(kind == 3 || kind == 4, kind, "05 00 00 00 00");
        }
    }

    private static void names() {
        Checks.by("its NAME (any bytes but 0), a byte 0: also a name without bytes");
        whole(true, "07 00 00 00 0A 00 00");
        check("names without bytes", Val.of("{'': {'': {'': 1}}}").bytes(), true);
        StringBuilder all = new StringBuilder();
        for (char c = 1; c < 256; c++) {
            check("name " + (int) c, new Val(3).with("" + c, new Val(10)).bytes(), true);
            all.append(c);
        }
        check("all of them", new Val(3).with(all.toString(), new Val(10)).bytes(), true);
        check("a long one", new Val(3).with("n".repeat(1993), new Val(10)).bytes(), true);
        Checks.by("its NAME, a byte 0: a name that does not end");
        whole(false, "06 00 00 00 0A 00", "07 00 00 00 0A 61 62", "08 00 00 00 0A 61 62 63",
                "06 00 00 00 0A 0A", "08 00 00 00 0A 61 62 00", "06 00 00 00 0A 61");
    }

    private static void namesAreDifferent() {
        Checks.by("The names of one document are different.");
        String[] wrong = {
            "{a: 1, a: 1}", "{a: 1, a: null}", "{a: 1, b: 2, a: 3}", "{'': 1, '': 1}",
            "{b: {a: 1, a: 1}}", "{b: [{a: 1, c: 1, a: 1}]}", "{z: 1, b: {c: {ab: 1, ab: {}}}}",
            "{\u00e9: 1, \u00e9: 1}",
        };
        for (String source : wrong) {
            check(source, Val.of(source).bytes(), false);
        }
        Val many = new Val(3);
        for (int i = 0; i < 300; i++) {
            many.with("n" + i, new Val(10));
        }
        check("300 names", many.bytes(), true);
        many.with("n0", new Val(10));
        check("300 names, and the first again", many.bytes(), false);
        Checks.by("The names of one document are different: those of two may be the same");
        String[] right = {
            "{a: {a: {a: 1}}}", "{a: {b: 1}, b: {b: 1}, c: [{b: 1}, {b: 1}]}",
            "{a: 1, A: 1, aa: 1, '': 1, 'a ': 1}", "{ab: 1, a: 1, abc: 1}", "{'0': 1, '00': 1}",
        };
        for (String source : right) {
            check(source, Val.of(source).bytes(), true);
        }
    }

    private static void wholeNumbers() {
        Checks.by("16 a WHOLE number of 32 bits (4 bytes)");
        value(true, 16, "00 00 00 80");
        for (String hex : new String[] {"", "01", "01 01", "01 01 01", "01 01 01 01 01"}) {
            value(false, 16, hex);
        }
        Checks.by("18 one of 64 bits (8 bytes)");
        value(true, 18, "00 00 00 00 00 00 00 80");
        for (String hex : new String[] {"", "01 01 01 01", "01 01 01 01 01 01 01",
            "01 01 01 01 01 01 01 01 01"}) {
            value(false, 18, hex);
        }
        Checks.by("both with a sign; (numbers with their lowest byte first)");
        sameNumber(16, "01 00 00 00", 1);
        sameNumber(16, "00 01 00 00", 256);
        sameNumber(16, "00 00 00 01", 16777216);
        sameNumber(16, "FF FF FF 7F", GREATEST);
        sameNumber(16, "00 00 00 80", Integer.MIN_VALUE);
        sameNumber(16, "FF FF FF FF", -1);
        sameNumber(16, "80 80 80 00", 0x808080);
        sameNumber(18, "FF FF FF FF FF FF FF FF", -1);
        sameNumber(18, "FF FF FF FF 00 00 00 00", 4294967295L);
        sameNumber(18, "00 00 00 80 00 00 00 00", 2147483648L);
        sameNumber(18, "00 00 00 00 01 00 00 00", 4294967296L);
        sameNumber(18, "00 00 00 00 00 00 00 01", 1L << 56);
        sameNumber(18, "FF FF FF FF FF FF FF 7F", Long.MAX_VALUE);
        sameNumber(18, "00 00 00 00 00 00 00 80", Long.MIN_VALUE);
    }

    private static void sameNumber(int kind, String hex, long number) {
        Planner x = new Planner();
        Tape.index(x, 0, "a", "", 0);
        Tape.value(x, new Val(3).with("v", Val.raw(kind, Tape.hex(hex))).bytes());
        for (long by = -1; by <= 1; by++) {
            Tape.filter(x, new Val(3).with("a", Val.big(number + by)).bytes());
            Checks.due(hex + " is " + (number + by), x.inside(0, 0), by == 0 ? 1 : 0);
        }
        Tape.filter(x, "{a: {$lt: 0}}");
        Checks.due(hex + " is below 0", x.inside(0, 0), number < 0 ? 1 : 0);
    }

    private static void truthsAndNothing() {
        Checks.by("8 a TRUTH (a byte 0 or 1)");
        for (int b = 0; b < 256; b++) {
            value(b <= 1, 8, String.format("%02X", b));
        }
        value(false, 8, "");
        value(false, 8, "01 00");
        value(false, 8, "01 01");
        Checks.by("10 NOTHING (no bytes)");
        value(true, 10, "");
        value(false, 10, "00");
        value(false, 10, "01");
    }

    private static void texts() {
        Checks.by("2 a TEXT: n (4 bytes, at least 1)");
        value(true, 2, "01 00 00 00 00");
        value(true, 2, "02 00 00 00 61 00");
        value(false, 2, "00 00 00 00");
        value(false, 2, "00 00 00 00 00");
        value(false, 2, "FF FF FF FF 00");
        value(false, 2, "00 00 00 80 00");
        value(false, 2, "01 00 00 80 00");
        value(false, 2, "FF FF FF 7F 00");
        for (String hex : new String[] {"", "01", "01 00 00", "01 00 00 00"}) {
            value(false, 2, hex);
        }
        Checks.by("a TEXT: n - 1 bytes, a byte 0: n is one too small or too great");
        value(false, 2, "01 00 00 00 61 00");
        value(false, 2, "03 00 00 00 61 00");
        value(false, 2, "02 00 00 00 61 62 00");
        value(false, 2, "03 00 00 00 61 62");
        Checks.by("a TEXT: n - 1 bytes, a byte 0: another byte there");
        value(false, 2, "01 00 00 00 01");
        value(false, 2, "02 00 00 00 61 61");
        value(false, 2, "02 00 00 00 00 61");
        Checks.by("a TEXT: (0 may be among them)");
        value(true, 2, "02 00 00 00 00 00");
        value(true, 2, "04 00 00 00 00 00 00 00");
        value(true, 2, "04 00 00 00 61 00 62 00");
        Checks.by("(numbers with their lowest byte first): n of a TEXT");
        value(false, 2, "00 00 00 01 00");
        String long300 = "2D 01 00 00" + " 61".repeat(300) + " 00";
        value(true, 2, long300);
    }

    private static void innerDocuments() {
        Checks.by("3 a DOCUMENT: its SIZE is one too small or too great, and as great as it gets");
        for (int kind = 3; kind <= 4; kind++) {
            value(true, kind, "05 00 00 00 00");
            value(false, kind, "04 00 00 00 00");
            value(false, kind, "06 00 00 00 00");
            value(false, kind, "04 00 00 00");
            value(false, kind, "05 00 00 00");
            value(false, kind, "00 00 00 00 00");
            value(false, kind, "FF FF FF FF 00");
            value(false, kind, "FF FF FF 7F 00");
            value(false, kind, "05 00 00 00 01");
            value(false, kind, "05 00 00");
            value(true, kind, "08 00 00 00 0A 30 00 00");
            value(false, kind, "07 00 00 00 0A 30 00 00");
            value(false, kind, "09 00 00 00 0A 30 00 00");
            value(false, kind, "08 00 00 00 0A 30 00 01");
        }
        Checks.by("3 a DOCUMENT: it ends before the one around it does");
        whole(false, "0D 00 00 00 03 61 00 06 00 00 00 00 00", "0C 00 00 00 03 61 00 05 00 00 00 00",
                "10 00 00 00 03 61 00 09 00 00 00 0A 62 00 00 00");
        whole(true, "10 00 00 00 03 61 00 08 00 00 00 0A 62 00 00 00");
    }

    private static Val rowNamed(String... names) {
        Val row = new Val(4);
        for (String name : names) {
            row.with(name, new Val(10));
        }
        return row;
    }

    private static void row(boolean right, String... names) {
        Val row = rowNamed(names);
        String what = "a row of " + Arrays.toString(names);
        check(what, new Val(3).with("a", row).bytes(), right);
        check(what + " in a row", new Val(3).with("a", new Val(4).item(row)).bytes(), right);
        Val document = new Val(3);
        for (String name : names) {
            document.with(name, new Val(10));
        }
        long different = Arrays.stream(names).distinct().count();
        check("a document of " + Arrays.toString(names), new Val(3).with("a", document).bytes(),
                different == names.length);
    }

    private static void rows() {
        Checks.by("4 a ROW: as a document whose names are 0, 1, 2, .. in decimal digits, in this order");
        row(true);
        row(true, "0");
        row(true, "0", "1", "2");
        row(false, "1");
        row(false, "1", "2");
        row(false, "1", "0");
        row(false, "0", "2");
        row(false, "0", "2", "1");
        row(false, "0", "0");
        row(false, "0", "1", "1");
        row(false, "0", "1", "0");
        Checks.by("a ROW: names in decimal digits, and in no other way");
        for (String name : new String[] {"", "00", "+0", "-0", " 0", "0 ", "a", "\u0660", "0.0", "/", ":"}) {
            row(false, name);
        }
        row(false, "0", "01");
        row(false, "0", "1 ");
        row(false, "0", "11");
        row(false, "0", "");
        Checks.by("a ROW: names of one, two and three digits");
        for (int size : new int[] {9, 10, 11, 12, 99, 100, 101, 102, 111, 150, 320}) {
            String[] names = new String[size];
            for (int i = 0; i < size; i++) {
                names[i] = Integer.toString(i);
            }
            row(true, names);
            String last = names[size - 1];
            names[size - 1] = "0" + last;
            row(false, names);
            names[size - 1] = Integer.toString(size);
            row(false, names);
            names[size - 1] = last + "0";
            row(false, names);
            names[size - 1] = last.substring(0, last.length() - 1);
            row(false, names);
            names[size - 1] = last.substring(1);
            row(false, names);
        }
    }

    private static void mostBytes() {
        Checks.by("A document has at most 2,000 bytes");
        byte[] full = new Val(3).with("a", Val.text("x".repeat(2000 - 13))).bytes();
        Checks.due("bytes", full.length, 2000);
        check("2000 bytes", full, true);
        Val many = new Val(3);
        for (int i = 0; i < 498; i++) {
            many.with("" + (char) ('0' + i % 64) + (char) ('0' + i / 64), new Val(10));
        }
        Checks.due("bytes", many.bytes().length, 1997);
        check("498 elements", many.bytes(), true);
    }

    private static Val nested(int kind, int other, int depth) {
        Val v = new Val(depth % 2 == 0 ? kind : other);
        for (int i = depth - 1; i > 1; i--) {
            int around = i % 2 == 0 ? kind : other;
            v = around == 4 ? new Val(4).item(v) : new Val(3).with("a", v);
        }
        return v;
    }

    private static void depth() {
        Checks.by("documents and rows lie at most 16 deep, the outermost one being 1 deep.");
        int[][] kinds = {{3, 3}, {4, 4}, {3, 4}, {4, 3}};
        for (int[] k : kinds) {
            for (int depth = 2; depth <= 20; depth++) {
                Val deep = nested(k[0], k[1], depth);
                check(depth + " deep", new Val(3).with("a", deep).bytes(), depth <= 16);
                Val beside = nested(k[1], k[0], 16);
                check(depth + " deep behind another one",
                        new Val(3).with("b", beside).with("a", deep).with("c", beside).bytes(),
                        depth <= 16);
            }
        }
        Checks.by("at most 16 deep: other values may lie in the deepest one");
        String deepest = "{a: ".repeat(15) + "{b: 1, c: 'x', d: null, e: true, f: 1L}" + "}".repeat(15);
        check(deepest, Val.of(deepest).bytes(), true);
        String tooDeep = "{a: ".repeat(15) + "{b: {}}" + "}".repeat(15);
        check(tooDeep, Val.of(tooDeep).bytes(), false);
        check(tooDeep.replace("b: {}", "b: []"), Val.of(tooDeep.replace("b: {}", "b: []")).bytes(), false);
    }

    private static void everyChangedByte() {
        Checks.by("BYTES OF A DOCUMENT: each byte of one with all kinds changed in turn, and cut anywhere");
        byte[] bytes = Val.of("{a: 1, b: 2L, c: true, d: null, e: 't\u00e9', f: {g: [1, 't', {}]}, h: []}").bytes();
        for (int at = 0; at < bytes.length; at++) {
            for (int b = 0; b < 256; b++) {
                byte[] changed = bytes.clone();
                changed[at] = (byte) b;
                int want = Oracle.isDocument(changed) ? changed[4] : -1;
                Checks.due("value with byte " + at + " as " + b, Tape.value(new Planner(), changed), want);
            }
            Checks.due("value cut at " + at, Tape.value(new Planner(), Arrays.copyOf(bytes, at)), -1);
        }
    }
}
