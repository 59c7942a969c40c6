import java.util.Arrays;

/** Right UTF-8, in texts, names and paths. */
public final class Utf8Test {
    public static void main(String[] args) {
        Checks.by("Right UTF-8: characters up to 1114111");
        all(true, "F4 8F BF BF", "F4 80 80 80", "F3 BF BF BF", "00", "01", "7F");
        all(false, "F4 90 80 80", "F4 BF BF BF", "F5 80 80 80", "F6 80 80 80", "F7 BF BF BF",
                "F8 88 80 80 80", "FB BF BF BF BF", "FC 84 80 80 80 80", "FD BF BF BF BF BF", "FE", "FF",
                "FE 80 80 80 80 80 80");
        Checks.by("Right UTF-8: no character begins with a byte above 247, whatever is behind it");
        for (int head = 0xF8; head <= 0xFF; head++) {
            for (String rest : new String[] {" 80 80 80", " 90 80 80", " 8F BF BF", " BF BF BF", " 80 80", " 80"}) {
                all(false, Integer.toHexString(head) + rest);
            }
        }
        Checks.by("Right UTF-8: characters but 55296 to 57343");
        all(true, "ED 9F BF", "EE 80 80", "ED 80 80", "EF BF BF", "EC BF BF");
        all(false, "ED A0 80", "ED A0 81", "ED AF BF", "ED B0 80", "ED BF BE", "ED BF BF",
                "ED A0 80 ED B0 80");
        Checks.by("Right UTF-8: each in its shortest form");
        all(true, "C2 80", "DF BF", "E0 A0 80", "E1 80 80", "F0 90 80 80", "F1 80 80 80");
        all(false, "C0 80", "C0 AF", "C1 81", "C1 BF", "E0 80 80", "E0 81 81", "E0 9F BF",
                "F0 80 80 80", "F0 80 81 81", "F0 8F BF BF");
        Checks.by("Right UTF-8: a character that is cut short");
        all(false, "C2", "DF", "E0", "E0 A0", "EF BF", "F0", "F0 90", "F0 90 80", "F4 8F BF",
                "41 C3", "41 E2 82", "41 F0 9F 98");
        Checks.by("Right UTF-8: a character that is cut short by another one");
        all(false, "C2 41", "C2 C2 80", "E0 A0 41", "E0 41 80", "E2 82 C2 80", "F0 90 80 41",
                "F0 90 41 80", "F0 41 80 80", "C2 7F", "C2 C0", "C2 FF", "E2 82 7F", "E2 82 C0",
                "F0 90 80 7F", "F0 90 80 C0", "E2 C0 80", "F0 90 C0 80", "F0 D0 80 80", "C3 28",
                "C2 00", "E2 82 00", "F0 9F 98 00");
        Checks.by("Right UTF-8: a byte of 128 to 191 that begins a character");
        all(false, "80", "BF", "41 80", "C3 A9 A9", "E2 82 AC 80", "F0 9F 98 80 80", "80 41");
        Checks.by("Right UTF-8: several characters of each length");
        all(true, "41 C3 A9 42 E2 82 AC 43 F0 9F 98 80 44", "C3 A9 C3 A9", "E2 82 AC E2 82 AC",
                "F0 9F 98 80 F0 9F 98 80", "F0 9F 98 80 E2 82 AC C3 A9 41");
        everyCharacter();
        Checks.finish("Utf8Test");
    }

    private static void all(boolean right, String... hexes) {
        for (String hex : hexes) {
            byte[] bytes = Tape.hex(hex);
            text(hex, bytes, right);
            if (hex.indexOf("00") < 0) {
                name(hex, bytes, right);
                path(hex, bytes, right);
            }
        }
    }

    private static void text(String hex, byte[] bytes, boolean right) {
        Val text = new Val(2);
        text.text = bytes;
        check("text " + hex, new Val(3).with("a", text), 2, right);
        check("text behind " + hex, new Val(3).with("a", new Val(10)).with("b", text), 10, right);
        check("deep text " + hex, new Val(3).with("a", new Val(3).with("b", new Val(4).item(text))), 3, right);
    }

    private static void name(String hex, byte[] bytes, boolean right) {
        check("name " + hex, new Val(3).with(bytes, new Val(10)), 10, right);
        Val inner = new Val(3).with("a", new Val(10)).with(bytes, new Val(10));
        check("inner name " + hex, new Val(3).with("a", inner), 3, right);
    }

    private static void check(String what, Val document, int kind, boolean right) {
        byte[] bytes = document.bytes();
        Checks.due("value with " + what, Tape.value(new Planner(), bytes), right ? kind : -1);
        Checks.due("filter with " + what, Tape.filter(new Planner(), bytes) == -1, !right);
        Checks.due("oracle with " + what, Oracle.isDocument(bytes), right);
    }

    private static void path(String hex, byte[] bytes, boolean right) {
        int want = right ? 0 : -2;
        byte[] z = Val.utf8("z");
        Checks.due("index " + hex, Tape.index(new Planner(), 0, bytes, new byte[0], 0), want);
        Checks.due("index z, " + hex, Tape.index(new Planner(), 0, z, bytes, 0), want);
        Checks.due("index " + hex + ", z", Tape.index(new Planner(), 0, bytes, z, 0), want);
    }

    /** All characters but the point and 0, in paths of 500; then those that are none. */
    private static void everyCharacter() {
        Checks.by("Right UTF-8: every character there is");
        StringBuilder some = new StringBuilder();
        for (int character = 1; character <= 1114111; character++) {
            if (character != '.' && (character < 55296 || character > 57343)) {
                some.appendCodePoint(character);
            }
            if (character % 480 == 0 || character == 1114111) {
                byte[] bytes = some.length() == 0 ? Val.utf8("a") : Val.utf8(some.toString());
                Checks.due("index up to " + character, Tape.index(new Planner(), 0, bytes, new byte[0], 0), 0);
                some.setLength(0);
            }
        }
        byte[] bytes = new byte[3];
        for (int character = 55296; character <= 57343; character++) {
            bytes[0] = (byte) (0xE0 | character >> 12);
            bytes[1] = (byte) (0x80 | character >> 6 & 63);
            bytes[2] = (byte) (0x80 | character & 63);
            Checks.due("index " + character + Arrays.toString(bytes),
                    Tape.index(new Planner(), 0, bytes, new byte[0], 0), -2);
        }
    }
}
