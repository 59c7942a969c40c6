import java.util.Arrays;

/** Promises 5 and 6: which bytes are a document. */
public final class DocumentTest {
    public static void main(String[] args) {
        wrongBytes();
        rightBytes();
        utf8();
        depth();
        everyChangedByte();
        Checks.finish("DocumentTest");
    }

    private static void check(String what, byte[] bytes, boolean right) {
        BoundsPlanner x = new BoundsPlanner();
        int kind = bytes.length > 5 ? bytes[4] : -1;
        Checks.due("value of " + what, Tape.value(x, bytes), right ? kind : -1);
        boolean refused = Tape.filter(x, bytes) == -1;
        Checks.due("filter of " + what, refused, !right);
        Checks.due("oracle of " + what, Oracle.isDocument(bytes), right);
    }

    private static void wrongBytes() {
        String[] wrong = {
            "", "05", "05 00 00 00", "04 00 00 00", "04 00 00 00 00", "05 00 00 00 01",
            "06 00 00 00 00", "06 00 00 00 00 00", "05 00 00 00 00 00", "FF FF FF FF 00",
            "05 00 00 80 00", "00 00 00 05 00",
            "08 00 00 00 0A 61 00 01", "07 00 00 00 0A 61 00", "07 00 00 00 0A 00 00 00",
            // kinds that are none
            "08 00 00 00 01 61 00 00", "08 00 00 00 00 61 00 00", "08 00 00 00 FF 61 00 00",
            "0C 00 00 00 11 61 00 01 00 00 00 00", "08 00 00 00 06 61 00 00",
            // a name without end
            "07 00 00 00 0A 61 62", "08 00 00 00 0A 61 62 63",
            // truths
            "09 00 00 00 08 61 00 02 00", "09 00 00 00 08 61 00 FF 00", "08 00 00 00 08 61 00 00",
            // numbers that are too short
            "0B 00 00 00 10 61 00 01 00 00 00", "0F 00 00 00 12 61 00 01 00 00 00 00 00 00 00",
            // texts: n is 0, negative, too much, no 0 behind it, too short
            "0C 00 00 00 02 61 00 00 00 00 00 00", "0D 00 00 00 02 61 00 FF FF FF FF 00 00",
            "0D 00 00 00 02 61 00 03 00 00 00 00 00", "0D 00 00 00 02 61 00 01 00 00 00 01 00",
            "0E 00 00 00 02 61 00 01 00 00 00 00 00 00", "0D 00 00 00 02 61 00 FF FF FF 7F 00 00",
            "0E 00 00 00 02 61 00 02 00 00 00 62 63 00", "0A 00 00 00 02 61 00 01 00 00",
            // documents inside: too long, too short, without a 0
            "0D 00 00 00 03 61 00 06 00 00 00 00 00", "0D 00 00 00 03 61 00 04 00 00 00 00 00",
            "0D 00 00 00 03 61 00 05 00 00 00 01 00", "0D 00 00 00 03 61 00 FF FF FF 7F 00 00",
            "0B 00 00 00 03 61 00 05 00 00 00", "0D 00 00 00 03 61 00 FF FF FF FF 00 00",
            // names that are the same
            "0B 00 00 00 0A 61 00 0A 61 00 00", "09 00 00 00 0A 00 0A 00 00",
            "0E 00 00 00 0A 61 00 0A 62 00 0A 61 00 00",
            // items with wrong names
            "10 00 00 00 04 61 00 08 00 00 00 0A 31 00 00 00", "0F 00 00 00 04 61 00 07 00 00 00 0A 00 00 00",
            "11 00 00 00 04 61 00 09 00 00 00 0A 30 30 00 00 00",
            "13 00 00 00 04 61 00 0B 00 00 00 0A 30 00 0A 30 00 00 00",
            "13 00 00 00 04 61 00 0B 00 00 00 0A 31 00 0A 30 00 00 00",
            "14 00 00 00 04 61 00 0C 00 00 00 0A 30 00 0A 30 31 00 00 00",
            "13 00 00 00 04 61 00 0B 00 00 00 0A 30 00 0A 32 00 00 00",
        };
        for (String hex : wrong) {
            check(hex, Tape.hex(hex), false);
        }
    }

    private static void rightBytes() {
        check("an element without name", Tape.hex("07 00 00 00 0A 00 00"), true);
        check("a text with a 0", Tape.hex("0E 00 00 00 02 61 00 02 00 00 00 00 00 00"), true);
        String[] right = {
            "{a: 1}", "{a: -1L}", "{a: true}", "{a: false}", "{a: null}", "{a: ''}", "{a: 'x'}",
            "{a: {}}", "{a: []}", "{a: {b: {}, c: [[], {}]}, d: 1}", "{'': {'': {'': 1}}}",
            "{a: 1, A: 1, aa: 1, '': 1}",
        };
        for (String source : right) {
            check(source, Val.of(source).bytes(), true);
        }
        Val row = new Val(4);
        for (int i = 0; i < 120; i++) {
            row.item(new Val(10));
        }
        check("a row of 120", new Val(3).with("a", row).bytes(), true);
        row.names.set(100, Val.utf8("101"));
        check("a row with a wrong number", new Val(3).with("a", row).bytes(), false);
        row.names.set(100, Val.utf8("0100"));
        check("a row with a 0 ahead", new Val(3).with("a", row).bytes(), false);
        Val text = Val.text("x".repeat(2000 - 13));
        byte[] full = new Val(3).with("a", text).bytes();
        Checks.due("length", full.length, 2000);
        check("2000 bytes", full, true);
    }

    private static void utf8() {
        String[] right = {
            "7F", "C2 80", "DF BF", "E0 A0 80", "ED 9F BF", "EE 80 80", "EF BF BF",
            "F0 90 80 80", "F4 8F BF BF", "41 C3 A9 42", "01",
        };
        String[] wrong = {
            "80", "BF", "C0 80", "C1 BF", "C2", "C2 00", "C2 C2", "E0 9F BF", "ED A0 80",
            "ED BF BF", "E0 A0", "E0", "F0 8F BF BF", "F4 90 80 80", "F5 80 80 80", "F7 BF BF BF",
            "F0 90 80", "F8 88 80 80 80", "FC 84 80 80 80 80", "FE", "FF", "41 80", "C3 A9 A9",
        };
        for (String hex : right) {
            namedAndSaid(hex, true);
        }
        for (String hex : wrong) {
            namedAndSaid(hex, false);
        }
    }

    private static void namedAndSaid(String hex, boolean right) {
        byte[] bytes = Tape.hex(hex);
        Val text = new Val(2);
        text.text = bytes;
        check("text " + hex, new Val(3).with("a", text).bytes(), right);
        Val deep = new Val(3).with("b", new Val(4).item(text));
        check("deep text " + hex, new Val(3).with("a", deep).bytes(), right);
        if (hex.indexOf("00") < 0) {
            check("name " + hex, new Val(3).with(bytes, new Val(10)).bytes(), right);
            Val inner = new Val(3).with("a", new Val(10)).with(bytes, new Val(10));
            check("inner name " + hex, new Val(3).with("a", inner).bytes(), right);
        }
    }

    private static void depth() {
        for (int kind = 3; kind <= 4; kind++) {
            for (int depth = 14; depth <= 19; depth++) {
                Val v = new Val(kind);
                for (int i = 2; i < depth; i++) {
                    v = kind == 4 ? new Val(4).item(v) : new Val(3).with("a", v);
                }
                check(depth + " deep", new Val(3).with("a", v).bytes(), depth <= 16);
            }
        }
    }

    /** A document of all kinds with each of its bytes changed in turn, and cut anywhere. */
    private static void everyChangedByte() {
        byte[] bytes = Val.of("{a: 1, b: 2L, c: true, d: null, e: 't\u00e9', f: {g: [1, 't', {}]}, h: []}").bytes();
        BoundsPlanner x = new BoundsPlanner();
        for (int at = 0; at < bytes.length; at++) {
            for (int b = 0; b < 256; b++) {
                byte[] changed = bytes.clone();
                changed[at] = (byte) b;
                int want = Oracle.isDocument(changed) ? changed[4] : -1;
                Checks.due("value with byte " + at + " as " + b, Tape.value(x, changed), want);
                x = b % 16 == 0 ? new BoundsPlanner() : x;
            }
            Checks.due("value cut at " + at, Tape.value(x, Arrays.copyOf(bytes, at)), -1);
        }
    }
}
