import java.io.ByteArrayOutputStream;
import java.nio.charset.StandardCharsets;
import java.util.ArrayList;
import java.util.Arrays;
import java.util.List;

/**
 * A value of a document for tests. Its text form: 5 (32 bits), 5L (64 bits), true, false, null,
 * 'a text', {name: value, 'odd name': value}, [value, value].
 */
final class Val {
    final int kind;
    long number;
    byte[] text = new byte[0];
    /** The bytes of the value, when they are not to be made by its kind. */
    private byte[] raw = null;
    final List<byte[]> names = new ArrayList<>();
    final List<Val> parts = new ArrayList<>();
    /** Where its kind stands in the outermost document; set by bytes(). */
    int place = -1;

    Val(int kind) {
        this.kind = kind;
    }

    static Val raw(int kind, byte[] bytes) {
        Val v = new Val(kind);
        v.raw = bytes;
        return v;
    }

    static Val whole(int number) {
        Val v = new Val(16);
        v.number = number;
        return v;
    }

    static Val big(long number) {
        Val v = new Val(18);
        v.number = number;
        return v;
    }

    static Val truth(boolean b) {
        Val v = new Val(8);
        v.number = b ? 1 : 0;
        return v;
    }

    static Val text(String s) {
        Val v = new Val(2);
        v.text = utf8(s);
        return v;
    }

    static byte[] utf8(String s) {
        return s.getBytes(StandardCharsets.UTF_8);
    }

    Val with(String name, Val part) {
        return with(utf8(name), part);
    }

    Val with(byte[] name, Val part) {
        names.add(name);
        parts.add(part);
        return this;
    }

    /** One more item of a row. */
    Val item(Val part) {
        return with(Integer.toString(parts.size()), part);
    }

    int ofClass() {
        switch (kind) {
            case 10: return 1;
            case 2: return 3;
            case 3: return 4;
            case 4: return 5;
            case 8: return 6;
            default: return 2;
        }
    }

    String name(int i) {
        return new String(names.get(i), StandardCharsets.ISO_8859_1);
    }

    /** The part that the names lead to, a / between two of them. */
    Val at(String names) {
        Val v = this;
        for (String name : names.split("/")) {
            Val found = null;
            for (int i = 0; i < v.parts.size(); i++) {
                if (Arrays.equals(v.names.get(i), utf8(name))) {
                    found = v.parts.get(i);
                }
            }
            if (found == null) {
                throw new IllegalStateException("no " + name + " in " + names);
            }
            v = found;
        }
        return v;
    }

    /** The bytes of this document as the outermost one. */
    byte[] bytes() {
        return partBytes(0);
    }

    private byte[] partBytes(int start) {
        ByteArrayOutputStream out = new ByteArrayOutputStream();
        put(out, 0, 4);
        for (int i = 0; i < parts.size(); i++) {
            Val part = parts.get(i);
            part.place = start + out.size();
            out.write(part.kind);
            out.writeBytes(names.get(i));
            out.write(0);
            out.writeBytes(part.content(start + out.size()));
        }
        out.write(0);
        byte[] all = out.toByteArray();
        ByteArrayOutputStream size = new ByteArrayOutputStream();
        put(size, all.length, 4);
        System.arraycopy(size.toByteArray(), 0, all, 0, 4);
        return all;
    }

    private byte[] content(int start) {
        if (raw != null) {
            return raw;
        }
        ByteArrayOutputStream out = new ByteArrayOutputStream();
        switch (kind) {
            case 16: put(out, number, 4); break;
            case 18: put(out, number, 8); break;
            case 8: put(out, number, 1); break;
            case 10: break;
            case 2:
                put(out, text.length + 1, 4);
                out.writeBytes(text);
                out.write(0);
                break;
            default: return partBytes(start);
        }
        return out.toByteArray();
    }

    private static void put(ByteArrayOutputStream out, long number, int length) {
        for (int i = 0; i < length; i++) {
            out.write((int) (number >> (8 * i)));
        }
    }

    static Val of(String source) {
        Parser parser = new Parser(source);
        Val v = parser.value();
        if (parser.at != source.length()) {
            throw new IllegalStateException("more behind the value in " + source);
        }
        return v;
    }

    private static final class Parser {
        private final String s;
        private int at = 0;

        Parser(String s) {
            this.s = s;
        }

        private void blanks() {
            while (at < s.length() && s.charAt(at) == ' ') {
                at++;
            }
        }

        private boolean take(char c) {
            blanks();
            if (at < s.length() && s.charAt(at) == c) {
                at++;
                blanks();
                return true;
            }
            return false;
        }

        private String quoted() {
            int stop = s.indexOf('\'', at + 1);
            String inner = s.substring(at + 1, stop);
            at = stop + 1;
            return inner;
        }

        private String word(String stops) {
            int from = at;
            while (at < s.length() && stops.indexOf(s.charAt(at)) < 0) {
                at++;
            }
            return s.substring(from, at).trim();
        }

        Val value() {
            blanks();
            char c = s.charAt(at);
            if (c == '{' || c == '[') {
                return parts(c == '{');
            }
            if (c == '\'') {
                return text(quoted());
            }
            String word = word(",]}");
            switch (word) {
                case "true": return truth(true);
                case "false": return truth(false);
                case "null": return new Val(10);
                default:
            }
            return word.endsWith("L")
                    ? big(Long.parseLong(word.substring(0, word.length() - 1)))
                    : whole(Integer.parseInt(word));
        }

        private Val parts(boolean document) {
            Val v = new Val(document ? 3 : 4);
            char stop = document ? '}' : ']';
            at++;
            while (!take(stop)) {
                if (document) {
                    blanks();
                    String name = s.charAt(at) == '\'' ? quoted() : word(":");
                    if (!take(':')) {
                        throw new IllegalStateException("no : in " + s);
                    }
                    v.with(name, value());
                } else {
                    v.item(value());
                }
                take(',');
            }
            return v;
        }
    }
}
