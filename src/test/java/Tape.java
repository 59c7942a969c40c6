import java.util.Arrays;

/** Puts bytes on the tape of a planner and says paths, filters and values by them. */
final class Tape {
    private Tape() {
    }

    static void feed(Planner x, byte[] bytes) {
        byte[] all = Arrays.copyOf(bytes, (bytes.length + 19) / 20 * 20);
        for (int at = 0; at < all.length; at += 20) {
            x.feed(number(all, at), number(all, at + 4), number(all, at + 8),
                    number(all, at + 12), number(all, at + 16));
        }
    }

    static int number(byte[] b, int at) {
        return (b[at] & 255) << 24 | (b[at + 1] & 255) << 16 | (b[at + 2] & 255) << 8 | b[at + 3] & 255;
    }

    static int index(Planner x, int i, String first, String second, int how) {
        return index(x, i, Val.utf8(first), Val.utf8(second), how);
    }

    static int index(Planner x, int i, byte[] first, byte[] second, int how) {
        byte[] both = Arrays.copyOf(first, first.length + second.length);
        System.arraycopy(second, 0, both, first.length, second.length);
        feed(x, both);
        return x.index(i, first.length, second.length, how);
    }

    static int filter(Planner x, byte[] bytes) {
        feed(x, bytes);
        return x.filter(bytes.length);
    }

    static int filter(Planner x, String document) {
        return filter(x, Val.of(document).bytes());
    }

    static int value(Planner x, byte[] bytes) {
        feed(x, bytes);
        return x.value(bytes.length);
    }

    static int value(Planner x, String value) {
        return value(x, new Val(3).with("v", Val.of(value)).bytes());
    }

    /** Bytes in hexadecimal digits, with blanks where one likes. */
    static byte[] hex(String digits) {
        String s = digits.replace(" ", "");
        byte[] bytes = new byte[s.length() / 2];
        for (int i = 0; i < bytes.length; i++) {
            bytes[i] = (byte) Integer.parseInt(s.substring(2 * i, 2 * i + 2), 16);
        }
        return bytes;
    }

    /**
     * The intervals of a path in one line: [ or ] for IN, ( or ) for out, the values by the places
     * of their kinds, - and + for the beginning and the end of a class, the class ahead.
     */
    static String told(Planner x, int i, int w) {
        StringBuilder out = new StringBuilder();
        for (int k = 0; k < x.many(i, w); k++) {
            out.append(k == 0 ? "" : " ").append(x.end(i, w, k, false, 0));
            if (x.end(i, w, k, true, 0) != x.end(i, w, k, false, 0)) {
                out.append("!");
            }
            out.append(x.end(i, w, k, false, 2) == 1 ? "[" : "(");
            out.append(side(x, i, w, k, false)).append(",").append(side(x, i, w, k, true));
            out.append(x.end(i, w, k, true, 2) == 1 ? "]" : ")");
        }
        return out.toString();
    }

    private static String side(Planner x, int i, int w, int k, boolean high) {
        int place = x.end(i, w, k, high, 3);
        if (x.end(i, w, k, high, 1) == 1) {
            return Integer.toString(place);
        }
        return place == -1 ? (high ? "+" : "-") : "?";
    }
}
