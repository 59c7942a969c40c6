import java.nio.ByteBuffer;
import java.nio.charset.CharacterCodingException;
import java.nio.charset.StandardCharsets;
import java.util.ArrayList;
import java.util.Arrays;
import java.util.Comparator;
import java.util.HashSet;
import java.util.List;
import java.util.Set;
import java.util.function.Predicate;

/**
 * The document's terms a second time, as plainly as they are said there and on values instead of
 * bytes: sets are asked value by value, faults are all listed and the first one is taken.
 */
final class Oracle {
    private static final List<String> CONDITIONS = List.of("$eq", "$ne", "$in", "$nin", "$lt",
            "$lte", "$gt", "$gte", "$exists", "$size", "$elem", "$not");
    private static final List<String> JOINS = List.of("$and", "$or", "$nor");

    private Oracle() {
    }

    // ---- bytes of a document

    static boolean isDocument(byte[] bytes) {
        return bytes.length <= 2000 && length(bytes, 0, bytes.length, false, 1) == bytes.length;
    }

    private static int length(byte[] b, int from, int to, boolean row, int depth) {
        if (depth > 16 || to - from < 5) {
            return -1;
        }
        long size = number(b, from);
        if (size < 5 || size > to - from) {
            return -1;
        }
        int last = from + (int) size - 1;
        Set<String> names = new HashSet<>();
        int at = from + 4;
        while (at < last) {
            int kind = b[at++];
            int start = at;
            while (at < last && b[at] != 0) {
                at++;
            }
            String name = new String(b, start, at - start, StandardCharsets.ISO_8859_1);
            if (at == last || !isUtf8(b, start, at) || row && !name.equals("" + names.size())) {
                return -1;
            }
            if (!names.add(name)) {
                return -1;
            }
            at++;
            int length = valueLength(b, at, last, kind, depth);
            if (length < 0 || length > last - at) {
                return -1;
            }
            at += length;
        }
        return at == last && b[last] == 0 ? (int) size : -1;
    }

    private static int valueLength(byte[] b, int at, int last, int kind, int depth) {
        switch (kind) {
            case 16: return 4;
            case 18: return 8;
            case 10: return 0;
            case 8: return at < last && (b[at] == 0 || b[at] == 1) ? 1 : -1;
            case 3: return length(b, at, last, false, depth + 1);
            case 4: return length(b, at, last, true, depth + 1);
            case 2:
                if (last - at < 5) {
                    return -1;
                }
                long n = number(b, at);
                if (n < 1 || n > last - at - 4) {
                    return -1;
                }
                int stop = at + 4 + (int) n - 1;
                return b[stop] == 0 && isUtf8(b, at + 4, stop) ? 4 + (int) n : -1;
            default: return -1;
        }
    }

    private static long number(byte[] b, int at) {
        return (b[at] & 255L) | (b[at + 1] & 255L) << 8 | (b[at + 2] & 255L) << 16
                | (b[at + 3] & 255L) << 24;
    }

    private static boolean isUtf8(byte[] b, int from, int to) {
        try {
            StandardCharsets.UTF_8.newDecoder().decode(ByteBuffer.wrap(b, from, to - from));
            return true;
        } catch (CharacterCodingException e) {
            return false;
        }
    }

    // ---- order

    static int compare(Val a, Val b) {
        if (a.ofClass() != b.ofClass()) {
            return a.ofClass() - b.ofClass();
        }
        switch (a.ofClass()) {
            case 3: return Arrays.compareUnsigned(a.text, b.text);
            case 4:
            case 5: return compareParts(a, b);
            default: return Long.compare(a.number, b.number);
        }
    }

    private static int compareParts(Val a, Val b) {
        for (int i = 0; i < a.parts.size() && i < b.parts.size(); i++) {
            Val x = a.parts.get(i);
            Val y = b.parts.get(i);
            int order = x.ofClass() - y.ofClass();
            if (order == 0 && a.kind == 3) {
                order = Arrays.compareUnsigned(a.names.get(i), b.names.get(i));
            }
            order = order == 0 ? compare(x, y) : order;
            if (order != 0) {
                return order;
            }
        }
        return a.parts.size() - b.parts.size();
    }

    // ---- faults

    /** All faults as place * 10 + number, so that the least is the first; bytes() has been asked. */
    static int faultOf(Val filter) {
        List<Integer> faults = new ArrayList<>();
        List<Integer> counted = new ArrayList<>();
        lookAtFilter(filter, faults, counted);
        counted.sort(Comparator.naturalOrder());
        if (counted.size() > 100) {
            faults.add(counted.get(100) * 10 + 5);
        }
        return faults.stream().min(Comparator.naturalOrder()).orElse(0) % 10;
    }

    private static void lookAtFilter(Val filter, List<Integer> faults, List<Integer> counted) {
        for (int i = 0; i < filter.parts.size(); i++) {
            Val part = filter.parts.get(i);
            String name = filter.name(i);
            counted.add(part.place);
            if (JOINS.contains(name)) {
                if (part.kind != 4 || part.parts.isEmpty()) {
                    faults.add(part.place * 10 + 2);
                    continue;
                }
                for (Val item : part.parts) {
                    if (item.kind != 3) {
                        faults.add(item.place * 10 + 2);
                    } else {
                        lookAtFilter(item, faults, counted);
                    }
                }
                continue;
            }
            if (name.startsWith("$")) {
                faults.add(part.place * 10 + 1);
            }
            String[] steps = name.split("\\.", -1);
            if (steps.length > 8 || Arrays.asList(steps).contains("")) {
                faults.add(part.place * 10 + 3);
            }
            for (String step : steps) {
                if (step.startsWith("$")) {
                    faults.add(part.place * 10 + 3);
                }
            }
            if (isConditions(part)) {
                lookAtConditions(part, faults, counted);
            } else {
                counted.add(part.place);
            }
        }
    }

    private static void lookAtConditions(Val document, List<Integer> faults, List<Integer> counted) {
        for (int i = 0; i < document.parts.size(); i++) {
            Val v = document.parts.get(i);
            String name = document.name(i);
            counted.add(v.place);
            if (!CONDITIONS.contains(name)) {
                faults.add(v.place * 10 + 1);
                continue;
            }
            boolean right = true;
            switch (name) {
                case "$in": case "$nin": right = v.kind == 4; break;
                case "$exists": right = v.kind == 8; break;
                case "$size": right = v.ofClass() == 2 && v.number >= 0; break;
                case "$elem": right = v.kind == 3; break;
                case "$not": right = isConditions(v); break;
                default:
            }
            if (!right) {
                faults.add(v.place * 10 + 4);
            } else if (name.equals("$not") || name.equals("$elem") && isElemConditions(v)) {
                lookAtConditions(v, faults, counted);
            } else if (name.equals("$elem")) {
                lookAtFilter(v, faults, counted);
            }
        }
    }

    private static boolean isConditions(Val v) {
        return v.kind == 3 && !v.parts.isEmpty() && v.name(0).startsWith("$");
    }

    private static boolean isElemConditions(Val v) {
        return isConditions(v) && !JOINS.contains(v.name(0));
    }

    // ---- bounds

    /** An end: side -1 and 1 are the beginning and the end of a class, 0 a value. */
    record Limit(int ofClass, int side, Val v, boolean in) {
        static Limit at(Val v, boolean in) {
            return new Limit(v.ofClass(), 0, v, in);
        }

        int against(Limit other) {
            if (ofClass != other.ofClass) {
                return ofClass - other.ofClass;
            }
            return side != 0 || other.side != 0 ? side - other.side : compare(v, other.v);
        }

        int tell(int what) {
            switch (what) {
                case 0: return ofClass;
                case 1: return side == 0 ? 1 : 0;
                case 2: return in ? 1 : 0;
                case 3: return side == 0 ? v.place : -1;
                default: return -2;
            }
        }
    }

    record Span(Limit low, Limit high) {
        boolean isEmpty() {
            int order = low.against(high);
            return low.ofClass != high.ofClass || order > 0 || order == 0 && !(low.in && high.in);
        }

        boolean isPoint() {
            return low.side == 0 && high.side == 0 && low.against(high) == 0;
        }
    }

    /** A set of values: its intervals, and by itself. */
    record Bounded(List<Span> spans, Predicate<Val> has, boolean exact) {
    }

    private static Bounded both(Bounded a, Bounded b) {
        List<Span> spans = new ArrayList<>();
        for (Span x : a.spans) {
            for (Span y : b.spans) {
                Span span = new Span(inner(x.low, y.low, 1), inner(x.high, y.high, -1));
                if (!span.isEmpty()) {
                    spans.add(span);
                }
            }
        }
        sort(spans);
        return new Bounded(spans, v -> a.has.test(v) && b.has.test(v), false);
    }

    private static Limit inner(Limit first, Limit second, int sign) {
        int order = second.against(first) * sign;
        if (order != 0) {
            return order > 0 ? second : first;
        }
        return first.in && !second.in ? second : first;
    }

    private static void sort(List<Span> spans) {
        spans.sort((a, b) -> a.low.against(b.low));
    }

    private static Bounded ofCondition(String name, Val v) {
        boolean exact = name.equals("$eq") || name.equals("$in");
        List<Span> spans = new ArrayList<>();
        switch (name) {
            case "$eq":
            case "$in":
                List<Val> points = name.equals("$eq") ? List.of(v) : v.parts;
                for (Val point : points) {
                    if (point.kind == 4) {
                        return null;
                    }
                    if (spans.stream().noneMatch(s -> compare(s.low.v, point) == 0)) {
                        spans.add(new Span(Limit.at(point, true), Limit.at(point, true)));
                    }
                }
                sort(spans);
                return new Bounded(spans,
                        x -> points.stream().anyMatch(p -> compare(p, x) == 0), exact);
            case "$lt":
            case "$lte":
            case "$gt":
            case "$gte":
                return v.kind == 4 ? null : ofComparison(name, v);
            case "$elem":
                return ofElem(v);
            default:
                return null;
        }
    }

    private static Bounded ofComparison(String name, Val v) {
        boolean in = name.endsWith("e");
        boolean under = name.startsWith("$l");
        List<Span> spans = new ArrayList<>();
        if (v.kind == 10) {
            if (in) {
                spans.add(new Span(Limit.at(v, true), Limit.at(v, true)));
            }
        } else if (under) {
            spans.add(new Span(new Limit(v.ofClass(), -1, null, false), Limit.at(v, in)));
        } else {
            spans.add(new Span(Limit.at(v, in), new Limit(v.ofClass(), 1, null, false)));
        }
        return new Bounded(spans, x -> {
            int order = compare(x, v);
            return x.ofClass() == v.ofClass() && (order == 0 ? in : order < 0 == under);
        }, false);
    }

    private static Bounded ofElem(Val v) {
        Bounded all = null;
        for (int i = 0; isElemConditions(v) && i < v.parts.size(); i++) {
            String name = v.name(i);
            Bounded one = name.equals("$elem") ? null : ofCondition(name, v.parts.get(i));
            all = all == null ? one : one == null ? all : both(all, one);
        }
        if (all == null) {
            return null;
        }
        List<Span> spans = new ArrayList<>(all.spans);
        spans.add(new Span(new Limit(5, -1, null, false), new Limit(5, 1, null, false)));
        sort(spans);
        Predicate<Val> has = all.has;
        return new Bounded(spans, x -> x.kind == 4 || has.test(x), false);
    }

    private static void gather(Val filter, String path, List<Bounded> found) {
        for (int i = 0; i < filter.parts.size(); i++) {
            Val v = filter.parts.get(i);
            String name = filter.name(i);
            if (name.equals("$and")) {
                v.parts.forEach(item -> gather(item, path, found));
            } else if (name.equals(path) && !isConditions(v)) {
                found.add(ofCondition("$eq", v));
            } else if (name.equals(path)) {
                for (int j = 0; j < v.parts.size(); j++) {
                    found.add(ofCondition(v.name(j), v.parts.get(j)));
                }
            }
        }
        found.removeIf(b -> b == null);
    }

    /** Null when the path is FREE; the path has no bytes above 127. */
    static Bounded boundsOf(Val filter, String path, boolean many) {
        List<Bounded> found = new ArrayList<>();
        gather(filter, path, found);
        if (found.isEmpty()) {
            return null;
        }
        if (many) {
            return found.stream().filter(Bounded::exact).findFirst().orElse(found.get(0));
        }
        Bounded all = found.get(0);
        for (int i = 1; i < found.size(); i++) {
            all = both(all, found.get(i));
        }
        return all;
    }

    static int rankOf(Bounded first, Bounded second) {
        if (first == null) {
            return 0;
        }
        if (!first.spans.stream().allMatch(Span::isPoint)) {
            return 1;
        }
        return second == null ? 2 : 3;
    }

    static int rangesOf(Bounded first, Bounded second) {
        switch (rankOf(first, second)) {
            case 0: return 1;
            case 3: return first.spans.size() * second.spans.size();
            default: return first.spans.size();
        }
    }
}
