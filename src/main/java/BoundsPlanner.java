import java.util.ArrayList;
import java.util.Arrays;

/**
 * Which keys of an index a filter leaves: for each path of an index the intervals in which a key
 * of every document lies for which the filter holds, and the index that is chosen by them.
 */
public final class BoundsPlanner {
    private static final int MOST_BYTES = 2000;
    private static final int FED_BYTES = 20;
    private static final int INDEXES = 8;
    private static final int PATHS = 2;

    private static final int FIRST_DOWN = 1;
    private static final int SECOND_DOWN = 2;
    private static final int FIRST_MANY = 4;
    private static final int SECOND_MANY = 8;
    private static final int ALL_HOW = 15;

    private final byte[] tape = new byte[MOST_BYTES];
    private final Path[] paths = new Path[INDEXES * PATHS];
    private int taped;
    private Filter planned;
    private Node held;

    public BoundsPlanner() {
        taped = 0;
        planned = null;
        held = null;
    }

    public int feed(int a, int b, int c, int d, int e) {
        if (taped > MOST_BYTES - FED_BYTES) {
            return -1;
        }
        putNumber(a);
        putNumber(b);
        putNumber(c);
        putNumber(d);
        putNumber(e);
        return taped;
    }

    public int index(int i, int n, int m, int how) {
        if (i < 0 || i >= INDEXES || n < 1 || m < 0 || how < 0 || how > ALL_HOW) {
            return -1;
        }
        if (n > taped || m > taped - n) {
            return -1;
        }
        byte[] first = Arrays.copyOfRange(tape, 0, n);
        byte[] second = Arrays.copyOfRange(tape, n, n + m);
        taped = 0;
        boolean alone = m == 0;
        if (alone && (how & (SECOND_DOWN | SECOND_MANY)) != 0 || !Path.isRight(first)) {
            return -2;
        }
        if (!alone && (!Path.isRight(second) || Bytes.areEqual(first, second))) {
            return -2;
        }
        paths[PATHS * i] = new Path(first, (how & FIRST_DOWN) != 0, (how & FIRST_MANY) != 0);
        paths[PATHS * i + 1] = alone
                ? null : new Path(second, (how & SECOND_DOWN) != 0, (how & SECOND_MANY) != 0);
        return 0;
    }

    public boolean drop(int i) {
        if (pathAt(i, 0) == null) {
            return false;
        }
        paths[PATHS * i] = null;
        paths[PATHS * i + 1] = null;
        return true;
    }

    public int filter(int n) {
        if (n < 0 || n > taped) {
            return -2;
        }
        planned = null;
        Reader reader = new Reader(takeTape(n));
        Node whole = reader.readWhole();
        if (whole == null) {
            return -1;
        }
        Checker checker = new Checker();
        int fault = checker.faultOfFilter(whole, 1);
        if (fault == 0) {
            Order.number(reader.nodes);
            Filter filter = new Filter();
            filter.gather(whole, 1);
            planned = filter;
        }
        return fault;
    }

    public int value(int n) {
        if (n < 0 || n > taped) {
            return -2;
        }
        Node whole = new Reader(takeTape(n)).readWhole();
        held = whole == null ? null : whole.first;
        return held == null ? -1 : held.kind;
    }

    public int many(int i, int w) {
        Path path = pathAt(i, w);
        if (path == null || planned == null) {
            return -2;
        }
        ArrayList<Interval> bounds = path.boundsBy(planned);
        return bounds == null ? -1 : bounds.size();
    }

    public int end(int i, int w, int k, boolean high, int what) {
        Path path = pathAt(i, w);
        if (path == null || planned == null) {
            return -2;
        }
        ArrayList<Interval> bounds = path.boundsBy(planned);
        if (bounds == null || k < 0 || k >= bounds.size()) {
            return -2;
        }
        Interval interval = bounds.get(path.down ? bounds.size() - 1 - k : k);
        End side = high ? interval.high : interval.low;
        switch (what) {
            case 0: return side.ofClass;
            case 1: return side.node == null ? 0 : 1;
            case 2: return side.in ? 1 : 0;
            case 3: return side.node == null ? -1 : side.node.place;
            default: return -2;
        }
    }

    public int inside(int i, int w) {
        Path path = pathAt(i, w);
        if (path == null || planned == null || held == null) {
            return -1;
        }
        ArrayList<Interval> bounds = path.boundsBy(planned);
        return bounds == null || Bounds.hold(bounds, held) ? 1 : 0;
    }

    public int rank(int i) {
        return planned == null || pathAt(i, 0) == null ? -1 : rankOf(i, planned);
    }

    public int ranges(int i) {
        return planned == null || pathAt(i, 0) == null
                ? -1 : rangesOf(i, rankOf(i, planned));
    }

    public int choose() {
        if (planned == null) {
            return -2;
        }
        int chosen = -1;
        int bestRank = 0;
        int fewest = 0;
        for (int i = 0; i < INDEXES; i++) {
            int itsRank = rankOf(i, planned);
            int itsRanges = rangesOf(i, itsRank);
            if (itsRank > bestRank || itsRank == bestRank && itsRank > 0 && itsRanges < fewest) {
                chosen = i;
                bestRank = itsRank;
                fewest = itsRanges;
            }
        }
        return chosen;
    }

    private void putNumber(int number) {
        for (int shift = 24; shift >= 0; shift -= 8) {
            if (taped >= 0 && taped < tape.length) {
                tape[taped] = (byte) (number >> shift);
                taped++;
            }
        }
    }

    /** The first n bytes of the tape, of which the caller knows that there are so many. */
    private byte[] takeTape(int n) {
        taped = 0;
        return Arrays.copyOfRange(tape, 0, n);
    }

    /** Path w of index i; null when there is no such path. */
    private Path pathAt(int i, int w) {
        if (i < 0 || i >= INDEXES || w < 0 || w >= PATHS) {
            return null;
        }
        return paths[PATHS * i + w];
    }

    /** The rank of index i; 0, as if it were free, when there is none. */
    private int rankOf(int i, Filter filter) {
        Path first = pathAt(i, 0);
        ArrayList<Interval> bounds = first == null ? null : first.boundsBy(filter);
        if (bounds == null) {
            return 0;
        }
        if (!Bounds.arePoints(bounds)) {
            return 1;
        }
        Path second = pathAt(i, 1);
        return second == null || second.boundsBy(filter) == null ? 2 : 3;
    }

    /** The RANGES of index i, whose rank is known. */
    private int rangesOf(int i, int itsRank) {
        if (itsRank == 0) {
            return 1;
        }
        return itsRank == 3 ? many(i, 0) * many(i, 1) : many(i, 0);
    }

    /** What is asked of rows of bytes. */
    private static final class Bytes {
        private static final int MOST_CHARACTER = 1114111;
        private static final int FIRST_SURROGATE = 55296;
        private static final int LAST_SURROGATE = 57343;

        /** The byte there, without sign; 0 where the row has none. */
        static int at(byte[] row, int place) {
            return place >= 0 && place < row.length ? row[place] & 255 : 0;
        }

        /** Byte by byte without sign; what ends first is less. */
        static int compare(byte[] a, int aFrom, int aTo, byte[] b, int bFrom, int bTo) {
            int shared = Math.min(aTo - aFrom, bTo - bFrom);
            for (int i = 0; i < shared; i++) {
                int order = Integer.compare(at(a, aFrom + i), at(b, bFrom + i));
                if (order != 0) {
                    return order;
                }
            }
            return Integer.compare(aTo - aFrom, bTo - bFrom);
        }

        static boolean areEqual(byte[] a, byte[] b) {
            return compare(a, 0, a.length, b, 0, b.length) == 0;
        }

        static boolean isWord(byte[] row, int from, int to, String word) {
            if (to - from != word.length()) {
                return false;
            }
            for (int i = 0; i < word.length(); i++) {
                if (at(row, from + i) != word.charAt(i)) {
                    return false;
                }
            }
            return true;
        }

        /** Whether the bytes are the decimal digits of a number from 0 on, with no 0 ahead. */
        static boolean isDecimal(byte[] row, int from, int to, int number) {
            int rest = number;
            int place = to;
            do {
                place--;
                if (place < from || at(row, place) != '0' + rest % 10) {
                    return false;
                }
                rest /= 10;
            } while (rest > 0);
            return place == from;
        }

        static boolean isRightUtf8(byte[] row, int from, int to) {
            int place = from;
            for (int count = from; count < to && place < to; count++) {
                int length = lengthOfCharacter(row, place, to);
                if (length == 0) {
                    return false;
                }
                place += length;
            }
            return true;
        }

        /** How many bytes the character there has; 0 when it is not right or goes beyond to. */
        private static int lengthOfCharacter(byte[] row, int place, int to) {
            int head = at(row, place);
            if (head < 128) {
                return 1;
            }
            int length = head < 0xE0 ? 2 : head < 0xF0 ? 3 : 4;
            if (head < 0xC0 || head > 0xF7 || length > to - place) {
                return 0;
            }
            int character = head & (0x7F >> length);
            for (int i = 1; i < length; i++) {
                int next = at(row, place + i);
                if ((next & 0xC0) != 0x80) {
                    return 0;
                }
                character = character << 6 | next & 0x3F;
            }
            int least = length == 2 ? 0x80 : length == 3 ? 0x800 : 0x10000;
            boolean surrogate = character >= FIRST_SURROGATE && character <= LAST_SURROGATE;
            return character < least || character > MOST_CHARACTER || surrogate ? 0 : length;
        }
    }

    /** A document, or an element or item with its value; the parts of a value are a chain. */
    private static final class Node {
        static final int TEXT = 2;
        static final int DOCUMENT = 3;
        static final int ROW = 4;
        static final int TRUTH = 8;
        static final int NOTHING = 10;
        static final int WHOLE_32 = 16;
        static final int WHOLE_64 = 18;

        static final int CLASS_NOTHING = 1;
        static final int CLASS_NUMBERS = 2;
        static final int CLASS_TEXTS = 3;
        static final int CLASS_DOCUMENTS = 4;
        static final int CLASS_ROWS = 5;
        static final int CLASS_TRUTHS = 6;

        /** A name that does not begin with $, and one that does but says nothing. */
        static final int PLAIN = 0;
        static final int UNKNOWN = 1;
        static final int AND = 2;
        static final int OR = 3;
        static final int NOR = 4;
        static final int EQ = 5;
        static final int NE = 6;
        static final int IN = 7;
        static final int NIN = 8;
        static final int LT = 9;
        static final int LTE = 10;
        static final int GT = 11;
        static final int GTE = 12;
        static final int EXISTS = 13;
        static final int SIZE = 14;
        static final int ELEM = 15;
        static final int NOT = 16;

        final byte[] row;
        final int kind;
        final int place;
        final int nameEnd;
        final int word;
        final int ofClass;
        int textFrom;
        int textTo;
        long number;
        Node first;
        Node next;
        /** Its number in the ORDER of all values of the filter; the SAME values have one. */
        int order;

        Node(byte[] row, int kind, int place, int nameEnd) {
            this.row = row;
            this.kind = kind;
            this.place = place;
            this.nameEnd = nameEnd;
            this.word = wordOf(row, place + 1, nameEnd);
            this.ofClass = classOf(kind);
        }

        private static int wordOf(byte[] row, int from, int to) {
            if (from >= to || Bytes.at(row, from) != '$') return PLAIN;
            if (Bytes.isWord(row, from, to, "$and")) return AND;
            if (Bytes.isWord(row, from, to, "$or")) return OR;
            if (Bytes.isWord(row, from, to, "$nor")) return NOR;
            if (Bytes.isWord(row, from, to, "$eq")) return EQ;
            if (Bytes.isWord(row, from, to, "$ne")) return NE;
            if (Bytes.isWord(row, from, to, "$in")) return IN;
            if (Bytes.isWord(row, from, to, "$nin")) return NIN;
            if (Bytes.isWord(row, from, to, "$lt")) return LT;
            if (Bytes.isWord(row, from, to, "$lte")) return LTE;
            if (Bytes.isWord(row, from, to, "$gt")) return GT;
            if (Bytes.isWord(row, from, to, "$gte")) return GTE;
            if (Bytes.isWord(row, from, to, "$exists")) return EXISTS;
            if (Bytes.isWord(row, from, to, "$size")) return SIZE;
            if (Bytes.isWord(row, from, to, "$elem")) return ELEM;
            if (Bytes.isWord(row, from, to, "$not")) return NOT;
            return UNKNOWN;
        }

        int nameFrom() {
            return place + 1;
        }

        private static int classOf(int kind) {
            switch (kind) {
                case NOTHING: return CLASS_NOTHING;
                case TEXT: return CLASS_TEXTS;
                case DOCUMENT: return CLASS_DOCUMENTS;
                case ROW: return CLASS_ROWS;
                case TRUTH: return CLASS_TRUTHS;
                default: return CLASS_NUMBERS;
            }
        }

        boolean joinsFilters() {
            return word == AND || word == OR || word == NOR;
        }

        boolean isConditions() {
            return kind == DOCUMENT && first != null && first.word != PLAIN;
        }

        /** Under $elem a document that begins with $and, $or or $nor is a filter. */
        boolean isConditionsOfItem() {
            return first != null && isConditions() && !first.joinsFilters();
        }
    }

    /** Reads the bytes of one document. */
    private static final class Reader {
        private static final int LEAST_SIZE = 5;
        private static final int MOST_DEEP = 16;

        /** All elements and items in the order of their places. */
        final ArrayList<Node> nodes = new ArrayList<>();
        private final byte[] row;
        private int at;
        private boolean wrong;

        Reader(byte[] row) {
            this.row = row;
            this.at = 0;
            this.wrong = false;
        }

        /** The document that all of the bytes are; null when they are none. */
        Node readWhole() {
            Node whole = new Node(row, Node.DOCUMENT, -1, 0);
            readParts(whole, row.length, 1);
            return wrong || at != row.length || !hasRightTexts() ? null : whole;
        }

        private void readParts(Node whole, int limit, int depth) {
            int start = at;
            int size = (int) readNumber(4, limit);
            if (wrong || depth > MOST_DEEP || size < LEAST_SIZE || size > limit - start) {
                wrong = true;
                return;
            }
            int last = start + size - 1;
            Node before = null;
            for (int count = 0; count < MOST_BYTES && at < last && !wrong; count++) {
                Node part = readPart(last, depth);
                if (part == null || !isNameDue(whole, part, count)) {
                    wrong = true;
                } else if (before == null) {
                    whole.first = part;
                } else {
                    before.next = part;
                }
                before = part;
            }
            if (at != last || Bytes.at(row, last) != 0) {
                wrong = true;
            }
            at = last + 1;
        }

        /** The element or item that begins here and ends before the limit; null when none does. */
        private Node readPart(int limit, int depth) {
            int nameEnd = at + 1;
            while (nameEnd < limit && Bytes.at(row, nameEnd) != 0) {
                nameEnd++;
            }
            if (nameEnd >= limit) {
                return null;
            }
            Node part = new Node(row, Bytes.at(row, at), at, nameEnd);
            nodes.add(part);
            at = nameEnd + 1;
            readContent(part, limit, depth);
            return part;
        }

        private void readContent(Node part, int limit, int depth) {
            switch (part.kind) {
                case Node.WHOLE_32:
                    part.number = (int) readNumber(4, limit);
                    break;
                case Node.WHOLE_64:
                    part.number = readNumber(8, limit);
                    break;
                case Node.TRUTH:
                    part.number = readNumber(1, limit);
                    wrong = wrong || part.number > 1;
                    break;
                case Node.NOTHING:
                    break;
                case Node.TEXT:
                    readText(part, limit);
                    break;
                case Node.DOCUMENT:
                case Node.ROW:
                    readParts(part, limit, depth + 1);
                    break;
                default:
                    wrong = true;
                    break;
            }
        }

        private void readText(Node part, int limit) {
            int length = (int) readNumber(4, limit);
            if (wrong || length < 1 || length > limit - at) {
                wrong = true;
                return;
            }
            part.textFrom = at;
            part.textTo = at + length - 1;
            wrong = Bytes.at(row, part.textTo) != 0;
            at += length;
        }

        private long readNumber(int length, int limit) {
            if (length > limit - at) {
                wrong = true;
                return 0;
            }
            long number = 0;
            for (int i = 0; i < length; i++) {
                number |= (long) Bytes.at(row, at + i) << (8 * i);
            }
            at += length;
            return number;
        }

        /** The part is not yet in the chain of the parts that came before it. */
        private boolean isNameDue(Node whole, Node part, int count) {
            if (whole.kind == Node.ROW) {
                return Bytes.isDecimal(row, part.nameFrom(), part.nameEnd, count);
            }
            for (Node other = whole.first; other != null; other = other.next) {
                if (Bytes.compare(row, other.nameFrom(), other.nameEnd,
                        row, part.nameFrom(), part.nameEnd) == 0) {
                    return false;
                }
            }
            return true;
        }

        private boolean hasRightTexts() {
            for (int i = 0; i < nodes.size(); i++) {
                Node node = nodes.get(i);
                if (!Bytes.isRightUtf8(row, node.nameFrom(), node.nameEnd)
                        || !Bytes.isRightUtf8(row, node.textFrom, node.textTo)) {
                    return false;
                }
            }
            return true;
        }
    }

    /** The ORDER of values. */
    private static final class Order {
        /** Gives every value its number among all of them, so that ends compare as numbers. */
        static void number(ArrayList<Node> nodes) {
            ArrayList<Node> sorted = new ArrayList<>();
            for (int i = 0; i < nodes.size(); i++) {
                Node node = nodes.get(i);
                sorted.add(countNotGreater(sorted, node), node);
            }
            int number = 0;
            for (int i = 0; i < sorted.size(); i++) {
                Node node = sorted.get(i);
                if (i > 0 && compare(sorted.get(i - 1), node, 1) != 0) {
                    number++;
                }
                node.order = number;
            }
        }

        private static int countNotGreater(ArrayList<Node> sorted, Node node) {
            int from = 0;
            int to = sorted.size();
            while (from < to) {
                int middle = (from + to) >>> 1;
                if (compare(sorted.get(middle), node, 1) > 0) {
                    to = middle;
                } else {
                    from = middle + 1;
                }
            }
            return from;
        }

        private static int compare(Node a, Node b, int depth) {
            if (a.ofClass != b.ofClass) {
                return Integer.compare(a.ofClass, b.ofClass);
            }
            switch (a.ofClass) {
                case Node.CLASS_TEXTS:
                    return Bytes.compare(a.row, a.textFrom, a.textTo, b.row, b.textFrom, b.textTo);
                case Node.CLASS_DOCUMENTS:
                case Node.CLASS_ROWS:
                    return depth > Reader.MOST_DEEP ? 0 : compareParts(a, b, depth);
                default:
                    return Long.compare(a.number, b.number);
            }
        }

        /** Serves rows too: two items of one number have the same name. */
        private static int compareParts(Node a, Node b, int depth) {
            Node x = a.first;
            Node y = b.first;
            while (x != null && y != null) {
                int order = Integer.compare(x.ofClass, y.ofClass);
                if (order == 0) {
                    order = Bytes.compare(x.row, x.nameFrom(), x.nameEnd,
                            y.row, y.nameFrom(), y.nameEnd);
                }
                if (order == 0) {
                    order = compare(x, y, depth + 1);
                }
                if (order != 0) {
                    return order;
                }
                x = x.next;
                y = y.next;
            }
            return x != null ? 1 : y != null ? -1 : 0;
        }
    }

    /**
     * Finds the first fault of a filter. It goes through the elements in the order of their places
     * and looks at each for the faults in their own order, so what it meets first is the answer.
     */
    private static final class Checker {
        private static final int NO_FAULT = 0;
        private static final int WRONG_NAME = 1;
        private static final int WRONG_FILTERS = 2;
        private static final int NO_PATH = 3;
        private static final int WRONG_VALUE = 4;
        private static final int TOO_MANY = 5;
        private static final int MOST_COUNTED = 100;

        private int counted;

        Checker() {
            this.counted = 0;
        }

        private int faultOfFilter(Node filter, int depth) {
            int fault = NO_FAULT;
            for (Node e = filter.first; e != null && fault == NO_FAULT; e = e.next) {
                fault = e.word == Node.PLAIN ? faultOfPath(e, depth) : faultOfJoin(e, depth);
            }
            return fault;
        }

        private int faultOfJoin(Node join, int depth) {
            if (!join.joinsFilters()) {
                return WRONG_NAME;
            }
            if (join.kind != Node.ROW || join.first == null || depth > Reader.MOST_DEEP) {
                return WRONG_FILTERS;
            }
            int fault = faultOfCount(1);
            for (Node item = join.first; item != null && fault == NO_FAULT; item = item.next) {
                fault = item.kind == Node.DOCUMENT
                        ? faultOfFilter(item, depth + 1) : WRONG_FILTERS;
            }
            return fault;
        }

        private int faultOfPath(Node element, int depth) {
            if (!Path.hasRightSteps(element.row, element.nameFrom(), element.nameEnd, false)) {
                return NO_PATH;
            }
            if (!element.isConditions()) {
                return faultOfCount(2);
            }
            int fault = faultOfCount(1);
            return fault == NO_FAULT ? faultOfConditions(element, depth) : fault;
        }

        private int faultOfConditions(Node conditions, int depth) {
            int fault = NO_FAULT;
            for (Node c = conditions.first; c != null && fault == NO_FAULT; c = c.next) {
                fault = faultOfCondition(c, depth);
            }
            return fault;
        }

        private int faultOfCondition(Node condition, int depth) {
            int word = condition.word;
            if (word == Node.PLAIN || word == Node.UNKNOWN || condition.joinsFilters()) {
                return WRONG_NAME;
            }
            if (!hasRightValue(condition) || depth > Reader.MOST_DEEP) {
                return WRONG_VALUE;
            }
            int fault = faultOfCount(1);
            if (fault != NO_FAULT) {
                return fault;
            }
            if (word == Node.NOT || word == Node.ELEM && condition.isConditionsOfItem()) {
                return faultOfConditions(condition, depth + 1);
            }
            return word == Node.ELEM ? faultOfFilter(condition, depth + 1) : NO_FAULT;
        }

        private static boolean hasRightValue(Node condition) {
            int kind = condition.kind;
            switch (condition.word) {
                case Node.IN:
                case Node.NIN:
                    return kind == Node.ROW;
                case Node.EXISTS:
                    return kind == Node.TRUTH;
                case Node.SIZE:
                    return condition.ofClass == Node.CLASS_NUMBERS && condition.number >= 0;
                case Node.ELEM:
                    return kind == Node.DOCUMENT;
                case Node.NOT:
                    return condition.isConditions();
                default:
                    return true;
            }
        }

        private int faultOfCount(int more) {
            counted += more;
            return counted > MOST_COUNTED ? TOO_MANY : NO_FAULT;
        }
    }

    /** An END of an interval: a value, or (without one) the beginning or end of a class. */
    private static final class End {
        /** More than a filter has values, so that all of a class lies between its two ends. */
        private static final int CLASS_WIDTH = 4096;

        final int ofClass;
        final Node node;
        final boolean in;
        /** Where an interval begins that has this as its low end: just before its value, if IN. */
        final int asLow;
        /** Where an interval stops that has this as its high end: just behind its value, if IN. */
        final int asHigh;

        End(Node node, boolean in) {
            int position = node.ofClass * CLASS_WIDTH + 1 + node.order;
            this.ofClass = node.ofClass;
            this.node = node;
            this.in = in;
            this.asLow = 2 * position + (in ? 0 : 1);
            this.asHigh = 2 * position + (in ? 1 : 0);
        }

        /** The end of a class, or its beginning. */
        End(int ofClass, boolean high) {
            int position = ofClass * CLASS_WIDTH + (high ? CLASS_WIDTH - 1 : 0);
            this.ofClass = ofClass;
            this.node = null;
            this.in = false;
            this.asLow = 2 * position + 1;
            this.asHigh = 2 * position;
        }
    }

    /** An interval of values of one class. */
    private static final class Interval {
        final End low;
        final End high;

        Interval(End low, End high) {
            this.low = low;
            this.high = high;
        }

        /**
         * What is in both, null if nothing is; ends that are alike are those of this one. Most of
         * the intervals that meet are points, which stay as they are, so few new ones are made.
         */
        Interval meet(Interval later) {
            End metLow = later.low.asLow > low.asLow ? later.low : low;
            End metHigh = later.high.asHigh < high.asHigh ? later.high : high;
            if (metLow.asLow >= metHigh.asHigh) {
                return null;
            }
            if (metLow == low && metHigh == high) {
                return this;
            }
            boolean isLater = metLow == later.low && metHigh == later.high;
            return isLater ? later : new Interval(metLow, metHigh);
        }

        boolean isPoint() {
            return low.node != null && high.node != null && low.node.order == high.node.order;
        }

        boolean holds(Node node) {
            if (node.ofClass != low.ofClass) {
                return false;
            }
            int overLow = low.node == null ? 1 : Order.compare(node, low.node, 1);
            int overHigh = high.node == null ? -1 : Order.compare(node, high.node, 1);
            return (overLow > 0 || overLow == 0 && low.in)
                    && (overHigh < 0 || overHigh == 0 && high.in);
        }
    }

    /** BOUNDS as lists of intervals, the least first; null is what does not bound. */
    private static final class Bounds {
        static ArrayList<Interval> ofElem(Node elem, ArrayList<Interval> spare) {
            if (!elem.isConditionsOfItem()) {
                return null;
            }
            ArrayList<Interval> all = null;
            for (Node c = elem.first; c != null; c = c.next) {
                ArrayList<Interval> some = ofCondition(c, c.word);
                if (all == null) {
                    all = some;
                } else if (some != null) {
                    meet(all, some, spare);
                }
            }
            if (all != null) {
                addRows(all);
            }
            return all;
        }

        /** The bounds of a condition other than $elem. */
        static ArrayList<Interval> ofCondition(Node condition, int word) {
            switch (word) {
                case Node.IN:
                    return ofItems(condition);
                case Node.EQ:
                case Node.LT:
                case Node.LTE:
                case Node.GT:
                case Node.GTE:
                    return condition.kind == Node.ROW ? null : ofComparison(condition, word);
                default:
                    return null;
            }
        }

        private static ArrayList<Interval> ofComparison(Node condition, int word) {
            ArrayList<Interval> bounds = new ArrayList<>();
            boolean in = word != Node.LT && word != Node.GT;
            End end = new End(condition, in);
            if (word == Node.EQ || condition.kind == Node.NOTHING) {
                if (in) {
                    bounds.add(new Interval(end, end));
                }
            } else if (word == Node.LT || word == Node.LTE) {
                bounds.add(new Interval(new End(condition.ofClass, false), end));
            } else {
                bounds.add(new Interval(end, new End(condition.ofClass, true)));
            }
            return bounds;
        }

        /** A point for each item, in order; of the SAME ones the first stays. */
        private static ArrayList<Interval> ofItems(Node condition) {
            ArrayList<Interval> bounds = new ArrayList<>();
            for (Node item = condition.first; item != null; item = item.next) {
                if (item.kind == Node.ROW) {
                    return null;
                }
                End end = new End(item, true);
                int place = bounds.size();
                while (place > 0 && bounds.get(place - 1).low.asLow > end.asLow) {
                    place--;
                }
                if (place == 0 || bounds.get(place - 1).low.asLow < end.asLow) {
                    bounds.add(place, new Interval(end, end));
                }
            }
            return bounds;
        }

        private static void addRows(ArrayList<Interval> bounds) {
            int place = bounds.size();
            while (place > 0 && bounds.get(place - 1).low.ofClass > Node.CLASS_ROWS) {
                place--;
            }
            bounds.add(place, new Interval(
                    new End(Node.CLASS_ROWS, false), new End(Node.CLASS_ROWS, true)));
        }

        /**
         * Leaves in all what is in the later ones, too. The lists are used again, as many bounds
         * may meet in one filter; what is in the spare one does not matter.
         */
        static void meet(ArrayList<Interval> all, ArrayList<Interval> later,
                ArrayList<Interval> spare) {
            copy(all, spare);
            all.clear();
            for (int i = 0; i < spare.size(); i++) {
                for (int j = 0; j < later.size(); j++) {
                    Interval met = spare.get(i).meet(later.get(j));
                    if (met != null) {
                        all.add(met);
                    }
                }
            }
        }

        static void copy(ArrayList<Interval> bounds, ArrayList<Interval> into) {
            into.clear();
            for (int i = 0; i < bounds.size(); i++) {
                into.add(bounds.get(i));
            }
        }

        static boolean arePoints(ArrayList<Interval> bounds) {
            for (int i = 0; i < bounds.size(); i++) {
                if (!bounds.get(i).isPoint()) {
                    return false;
                }
            }
            return true;
        }

        static boolean hold(ArrayList<Interval> bounds, Node node) {
            for (int i = 0; i < bounds.size(); i++) {
                if (bounds.get(i).holds(node)) {
                    return true;
                }
            }
            return false;
        }
    }

    /** What a filter says of one path by conditions that have bounds. */
    private static final class Clause {
        /** An element of the filter whose name is the path. */
        final Node element;
        /** What is in the bounds of all conditions. */
        final ArrayList<Interval> all = new ArrayList<>();
        /** The bounds of the one condition that counts when the path is MANY-KEYED. */
        ArrayList<Interval> one;
        private boolean exact;

        Clause(Node element) {
            this.element = element;
        }

        /** The next condition; exact is one by $eq or $in. */
        void add(ArrayList<Interval> bounds, boolean isExact, ArrayList<Interval> spare) {
            if (one == null) {
                Bounds.copy(bounds, all);
            } else {
                Bounds.meet(all, bounds, spare);
            }
            if (one == null || isExact && !exact) {
                one = bounds;
                exact = isExact;
            }
        }
    }

    /**
     * A filter without fault, as far as it bounds. The bounds of all its paths are made once, when
     * it is read, so that questions and new indexes make nothing more.
     */
    private static final class Filter {
        private final ArrayList<Clause> clauses = new ArrayList<>();
        private final ArrayList<Interval> spare = new ArrayList<>();

        private void gather(Node filter, int depth) {
            for (Node e = filter.first; e != null; e = e.next) {
                if (e.word == Node.AND && depth <= Reader.MOST_DEEP) {
                    for (Node item = e.first; item != null; item = item.next) {
                        gather(item, depth + 1);
                    }
                } else if (e.word == Node.PLAIN && e.isConditions()) {
                    for (Node c = e.first; c != null; c = c.next) {
                        addCondition(e, c, c.word);
                    }
                } else if (e.word == Node.PLAIN) {
                    addCondition(e, e, Node.EQ);
                }
            }
        }

        private void addCondition(Node element, Node condition, int word) {
            ArrayList<Interval> bounds = word == Node.ELEM
                    ? Bounds.ofElem(condition, spare) : Bounds.ofCondition(condition, word);
            if (bounds == null) {
                return;
            }
            Clause clause = clauseOf(element.row, element.nameFrom(), element.nameEnd);
            if (clause == null) {
                clause = new Clause(element);
                clauses.add(clause);
            }
            clause.add(bounds, word == Node.EQ || word == Node.IN, spare);
        }

        /** What is said of the path that these bytes are; null when nothing bounds it. */
        private Clause clauseOf(byte[] row, int from, int to) {
            for (int i = 0; i < clauses.size(); i++) {
                Node element = clauses.get(i).element;
                if (Bytes.compare(element.row, element.nameFrom(), element.nameEnd,
                        row, from, to) == 0) {
                    return clauses.get(i);
                }
            }
            return null;
        }

        /** The bounds of a path; null when it is FREE. */
        ArrayList<Interval> boundsOf(byte[] path, boolean manyKeyed) {
            Clause clause = clauseOf(path, 0, path.length);
            if (clause == null) {
                return null;
            }
            return manyKeyed ? clause.one : clause.all;
        }
    }

    /** A path of an index. */
    private static final class Path {
        private static final int MOST_STEPS = 8;

        final boolean down;
        private final byte[] name;
        private final boolean manyKeyed;
        /** The filter whose bounds are kept, so that a run of calls finds them once. */
        private Filter seen;
        private ArrayList<Interval> kept;

        Path(byte[] name, boolean down, boolean manyKeyed) {
            this.name = name;
            this.down = down;
            this.manyKeyed = manyKeyed;
        }

        ArrayList<Interval> boundsBy(Filter filter) {
            if (seen != filter) {
                kept = filter.boundsOf(name, manyKeyed);
                seen = filter;
            }
            return kept;
        }

        static boolean isRight(byte[] name) {
            return Bytes.isRightUtf8(name, 0, name.length)
                    && hasRightSteps(name, 0, name.length, true);
        }

        static boolean hasRightSteps(byte[] row, int from, int to, boolean dollarsToo) {
            int steps = 0;
            boolean opens = true;
            for (int i = from; i < to; i++) {
                int b = Bytes.at(row, i);
                if (b == 0 || opens && (b == '.' || b == '$' && !dollarsToo)) {
                    return false;
                }
                if (opens) {
                    steps++;
                }
                opens = b == '.';
            }
            return !opens && steps <= MOST_STEPS;
        }
    }
}
