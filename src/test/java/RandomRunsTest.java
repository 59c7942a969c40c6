import java.util.Random;

/** Random filters, indexes and values (always the same ones) against the oracle. */
public final class RandomRunsTest {
    private static final String[] PATHS = {"a", "b", "a.b", "c", "0"};
    private static final String[] NAMES = {"a", "b", "", "a.b", "c"};
    private static final String[] COMPARISONS = {"$eq", "$lt", "$lte", "$gt", "$gte"};
    private final Random random;
    /** How often something wrong is put into a filter, of 1000. */
    private final int wrongness;

    private RandomRunsTest(long seed, int wrongness) {
        this.random = new Random(seed);
        this.wrongness = wrongness;
    }

    public static void main(String[] args) {
        int runs = args.length > 0 ? Integer.parseInt(args[0]) : 4000;
        int[] faults = new int[6];
        for (int seed = 0; seed < runs; seed++) {
            new RandomRunsTest(seed, seed % 4 == 0 ? 60 : 0).run(faults, seed);
        }
        for (int fault = 0; fault < 5; fault++) {
            Checks.due("filters with fault " + fault + " were there", faults[fault] > 0, true);
        }
        Checks.finish("RandomRunsTest");
    }

    private void run(int[] faults, int seed) {
        Val filter = seed % 10 == 9 ? longFilter() : filter(3);
        byte[] bytes = filter.bytes();
        if (bytes.length > 2000) {
            return;
        }
        Planner x = new Planner();
        String[][] paths = new String[8][];
        int[] how = new int[8];
        for (int i = 0; i < 8; i++) {
            if (random.nextInt(4) > 0) {
                paths[i] = paths();
                how[i] = random.nextInt(16) & (paths[i].length == 2 ? 15 : 5);
                index(x, i, paths[i], how[i]);
            }
        }
        Checks.due(seed + ": a document", Oracle.isDocument(bytes), true);
        int fault = Oracle.faultOf(filter);
        faults[fault]++;
        Checks.due(seed + ": filter", Tape.filter(x, bytes), fault);
        if (fault != 0) {
            Checks.due(seed + ": choose behind a fault", x.choose(), -2);
            return;
        }
        compareAll(x, filter, paths, how, seed);
    }

    private static void index(Planner x, int i, String[] paths, int how) {
        Tape.index(x, i, paths[0], paths.length == 2 ? paths[1] : "", how);
    }

    private String[] paths() {
        String first = PATHS[random.nextInt(PATHS.length)];
        String second = PATHS[random.nextInt(PATHS.length)];
        return first.equals(second) ? new String[] {first} : new String[] {first, second};
    }

    private void compareAll(Planner x, Val filter, String[][] paths, int[] how, int seed) {
        Val[] values = new Val[8];
        int best = -1;
        int bestRank = 0;
        int fewest = 0;
        for (int i = 0; i < values.length; i++) {
            values[i] = value(2);
        }
        for (int i = 0; i < 8; i++) {
            if (paths[i] == null) {
                Checks.due(seed + ": rank", x.rank(i), -1);
                continue;
            }
            Oracle.Bounded first = Oracle.boundsOf(filter, paths[i][0], (how[i] & 4) != 0);
            Oracle.Bounded second = paths[i].length == 1 ? null
                    : Oracle.boundsOf(filter, paths[i][1], (how[i] & 8) != 0);
            compareOne(filter, paths[i], how[i], 0, first, seed);
            if (paths[i].length == 2) {
                compareOne(filter, paths[i], how[i], 1, second, seed);
            }
            int rank = Oracle.rankOf(first, second);
            int ranges = Oracle.rangesOf(first, second);
            Checks.due(seed + ": rank", x.rank(i), rank);
            Checks.due(seed + ": ranges", x.ranges(i), ranges);
            if (rank > bestRank || rank > 0 && rank == bestRank && ranges < fewest) {
                best = i;
                bestRank = rank;
                fewest = ranges;
            }
            Tape.value(x, new Val(3).with("v", values[i]).bytes());
            Checks.due(seed + ": inside", x.inside(i, 0),
                    first == null || first.has().test(values[i]) ? 1 : 0);
        }
        Checks.due(seed + ": choose", x.choose(), best);
    }

    /** By a planner of its own, as there may be many intervals. */
    private static void compareOne(Val filter, String[] paths, int how, int w, Oracle.Bounded due, int seed) {
        Planner x = new Planner();
        Tape.filter(x, filter.bytes());
        index(x, 3, paths, how);
        boolean down = (how & (w == 0 ? 1 : 2)) != 0;
        Checks.due(seed + ": many", x.many(3, w), due == null ? -1 : due.spans().size());
        for (int k = 0; due != null && k < due.spans().size(); k++) {
            Oracle.Span span = due.spans().get(down ? due.spans().size() - 1 - k : k);
            for (int what = 0; what < 4; what++) {
                Checks.due(seed + ": low", x.end(3, w, k, false, what), span.low().tell(what));
                Checks.due(seed + ": high", x.end(3, w, k, true, what), span.high().tell(what));
            }
        }
    }

    private boolean wrongly() {
        return random.nextInt(1000) < wrongness;
    }

    private Val value(int depth) {
        switch (random.nextInt(depth > 0 ? 12 : 9)) {
            case 0: return new Val(10);
            case 1: case 2: case 3: return Val.whole(random.nextInt(6));
            case 4: case 5: return Val.big(random.nextInt(6));
            case 6: case 7: return Val.text("abab\u00e9".substring(random.nextInt(3), 3 + random.nextInt(3)));
            case 8: return Val.truth(random.nextBoolean());
            case 9: case 10: return document(depth);
            default:
                Val row = new Val(4);
                for (int i = random.nextInt(3); i > 0; i--) {
                    row.item(value(depth - 1));
                }
                return row;
        }
    }

    private Val document(int depth) {
        Val document = new Val(3);
        int first = random.nextInt(NAMES.length);
        for (int i = random.nextInt(3); i > 0; i--) {
            document.with(NAMES[(first + i) % NAMES.length], value(depth - 1));
        }
        return document;
    }

    private Val filter(int depth) {
        Val filter = new Val(3);
        boolean joined = false;
        int first = random.nextInt(PATHS.length);
        for (int i = random.nextInt(4); i > 0; i--) {
            if (wrongly()) {
                String[] wrong = {"$x", "", "a.$b", "a..b", "$eq", "$"};
                filter.with(wrong[random.nextInt(wrong.length)] , conditions(depth - 1));
                return filter;
            }
            if (depth > 0 && !joined && random.nextInt(2) == 0) {
                joined = true;
                String[] joins = {"$and", "$and", "$and", "$or", "$nor"};
                filter.with(joins[random.nextInt(joins.length)], filters(depth - 1));
            } else {
                boolean alone = random.nextInt(3) == 0;
                filter.with(PATHS[(first + i) % PATHS.length], alone ? value(2) : conditions(depth));
            }
        }
        return filter;
    }

    /** Many conditions of the same two paths, so wide that intervals are left at the end. */
    private Val longFilter() {
        Val row = new Val(4);
        for (int i = 2 + random.nextInt(15); i > 0; i--) {
            Val conditions = new Val(3);
            if (random.nextInt(3) == 0) {
                conditions.with("$in", manyNumbers());
            } else {
                conditions.with(random.nextBoolean() ? "$gte" : "$gt", number(random.nextInt(4)));
                conditions.with(random.nextBoolean() ? "$lte" : "$lt", number(16 + random.nextInt(4)));
            }
            if (random.nextInt(3) == 0) {
                conditions = new Val(3).with("$elem", conditions);
            }
            row.item(new Val(3).with(PATHS[random.nextInt(4) == 0 ? 1 : 0], conditions));
        }
        return new Val(3).with("$and", row);
    }

    private Val number(int number) {
        return random.nextBoolean() ? Val.whole(number) : Val.big(number);
    }

    private Val manyNumbers() {
        Val row = new Val(4);
        int first = random.nextInt(20);
        for (int i = 0; i < 20; i++) {
            if (random.nextInt(8) > 0) {
                row.item(number((first + i) % 20));
            }
        }
        return row;
    }

    private Val filters(int depth) {
        if (wrongly()) {
            return random.nextBoolean() ? new Val(4) : value(1);
        }
        Val row = new Val(4);
        for (int i = 1 + random.nextInt(4); i > 0; i--) {
            row.item(wrongly() ? value(1) : filter(depth));
        }
        return row;
    }

    private Val conditions(int depth) {
        Val document = new Val(3);
        int kinds = random.nextInt(1 << 11) & random.nextInt(1 << 11);
        int first = random.nextInt(11);
        for (int i = 0; i < 11; i++) {
            if ((kinds >> i & 1) != 0) {
                condition(document, (first + i) % 11, depth);
            }
        }
        if (document.parts.isEmpty()) {
            document.with(COMPARISONS[random.nextInt(5)], value(1));
        }
        if (wrongly()) {
            String[] wrong = {"$x", "a", "", "$and"};
            document.with(wrong[random.nextInt(wrong.length)], value(1));
        }
        return document;
    }

    private void condition(Val document, int which, int depth) {
        boolean wrong = wrongly();
        if (which < 5) {
            document.with(COMPARISONS[which], value(1));
        } else if (which < 7) {
            Val row = new Val(4);
            for (int i = random.nextInt(7); i > 0; i--) {
                row.item(value(random.nextInt(8) == 0 ? 1 : 0));
            }
            document.with(which == 5 ? "$in" : "$nin", wrong ? value(1) : row);
        } else if (which == 7) {
            document.with("$exists", wrong ? value(1) : Val.truth(random.nextBoolean()));
        } else if (which == 8) {
            document.with("$size", wrong ? Val.whole(-1) : Val.whole(random.nextInt(3)));
        } else if (which == 9 && depth > 0) {
            Val inner = random.nextInt(3) == 0 ? filter(depth - 1) : conditions(depth - 1);
            document.with("$elem", wrong ? value(1) : inner);
        } else if (which == 9) {
            document.with("$ne", value(1));
        } else if (depth > 0) {
            document.with("$not", wrong ? value(1) : conditions(depth - 1));
        }
    }
}
