/** INTERVALS and their ENDs. */
public final class IntervalsTest {
    public static void main(String[] args) {
        oneForEachValue();
        toAndFromAClass();
        greaterOfTheLowEnds();
        outRatherThanIn();
        theOneThatCameFirst();
        noValueBetween();
        betweenThereAreValues();
        directions();
        Checks.finish("IntervalsTest");
    }

    private static void oneForEachValue() {
        Checks.by("$eq and $in, and $lte, $gte with NOTHING: one for each value, both ends IN");
        Told.due("{a: 'x'}", "3[a,a]");
        Told.due("{a: {$eq: null}}", "1[a/$eq,a/$eq]");
        Told.due("{a: {$in: [2, 1, null]}}", "1[a/$in/2,a/$in/2] 2[a/$in/1,a/$in/1] 2[a/$in/0,a/$in/0]");
        Told.due("{a: {$lte: null}}", "1[a/$lte,a/$lte]");
        Told.due("{a: {$gte: null}}", "1[a/$gte,a/$gte]");
        Checks.by("(of several that are the SAME the first one)");
        Told.due("{a: {$in: [5, 5]}}", "2[a/$in/0,a/$in/0]");
        Told.due("{a: {$in: [5L, 5, 5L]}}", "2[a/$in/0,a/$in/0]");
        Told.due("{a: {$in: [6, 5, 4, 5L, 6L, 4L, 5]}}", "2[a/$in/2,a/$in/2] 2[a/$in/1,a/$in/1] 2[a/$in/0,a/$in/0]");
        Told.due("{a: {$in: [true, null, 'x', {b: 1}, {b: 1L}, 'x', null, true]}}", "1[a/$in/1,a/$in/1] "
                + "3[a/$in/2,a/$in/2] 4[a/$in/3,a/$in/3] 6[a/$in/0,a/$in/0]");
        Told.dueManyKeyed("{a: {$in: [5L, 5, 4, 4]}}", "2[a/$in/2,a/$in/2] 2[a/$in/0,a/$in/0]");
    }

    private static void toAndFromAClass() {
        Checks.by("otherwise $lt, $lte: from the beginning of the class to v");
        Told.due("{a: {$lt: 1}}", "2(-,a/$lt)");
        Told.due("{a: {$lte: 'x'}}", "3(-,a/$lte]");
        Checks.by("$gt, $gte: from v to the end of the class");
        Told.due("{a: {$gt: {}}}", "4(a/$gt,+)");
        Told.due("{a: {$gte: false}}", "6[a/$gte,+)");
        Checks.by("rows: from their class's beginning to its end");
        Told.due("{a: {$elem: {$in: []}}}", "5(-,+)");
        Told.due("{$and: [{a: {$elem: {$in: []}}}, {a: {$elem: {$gt: 1}}}]}", "5(-,+)");
    }

    private static void greaterOfTheLowEnds() {
        Checks.by("what is in two sets: the greater of the low ends, the lesser of the high ends");
        Told.due("{a: {$gt: 1}, $and: [{a: {$gt: 2}}]}", "2($and/0/a/$gt,+)");
        Told.due("{a: {$gt: 2}, $and: [{a: {$gt: 1}}]}", "2(a/$gt,+)");
        Told.due("{a: {$lt: 1}, $and: [{a: {$lt: 2}}]}", "2(-,a/$lt)");
        Told.due("{a: {$lt: 2}, $and: [{a: {$lt: 1}}]}", "2(-,$and/0/a/$lt)");
        Told.due("{a: {$gte: 1}, $and: [{a: {$gt: 2, $lt: 8}}, {a: {$lte: 7}}]}", "2($and/0/a/$gt,$and/1/a/$lte]");
        Told.due("{a: {$gte: 'a', $lt: 'b'}}", "3[a/$gte,a/$lt)");
        Told.due("{a: {$in: [1, 2, 3, 4]}, $and: [{a: {$in: [4, 2, 7]}}]}", "2[a/$in/1,a/$in/1] 2[a/$in/3,a/$in/3]");
        Told.due("{a: {$in: [9, 1, 5, 'x'], $gt: 1, $lte: 9}}", "2[a/$in/2,a/$in/2] 2[a/$in/0,a/$in/0]");
    }

    private static void outRatherThanIn() {
        Checks.by("out rather than IN at values that are the SAME");
        Told.due("{a: {$gte: 1, $gt: 1}}", "2(a/$gt,+)");
        Told.due("{a: {$gt: 1, $gte: 1}}", "2(a/$gt,+)");
        Told.due("{a: {$gte: 1L, $gt: 1}}", "2(a/$gt,+)");
        Told.due("{a: {$lt: 1, $lte: 1}}", "2(-,a/$lt)");
        Told.due("{a: {$lte: 1, $lt: 1L}}", "2(-,a/$lt)");
        Told.due("{a: {$lt: 5, $lte: 5L, $gte: 1, $gt: 1L}}", "2(a/$gt,a/$lt)");
        Told.due("{a: {$lte: {b: 1}, $lt: {b: 1L}}}", "4(-,a/$lt)");
        Told.due("{a: {$elem: {$gte: 'x', $gt: 'x'}}}", "3(a/$elem/$gt,+) 5(-,+)");
    }

    private static void theOneThatCameFirst() {
        Checks.by("and of two that are alike the one that came first");
        Told.due("{a: {$gt: 1}, $and: [{a: {$gt: 1L}}]}", "2(a/$gt,+)");
        Told.due("{$and: [{a: {$gt: 1L}}], a: {$gt: 1}}", "2($and/0/a/$gt,+)");
        Told.due("{a: {$lte: 1}, $and: [{a: {$lte: 1}}, {a: {$lte: 1L}}]}", "2(-,a/$lte]");
        Told.due("{$and: [{a: {$gt: 1}}, {a: {$gt: 1L}}, {a: {$gte: 1}}]}", "2($and/0/a/$gt,+)");
        Told.due("{$and: [{a: {$gte: 1}}, {a: {$gt: 1L}}, {a: {$gt: 1}}]}", "2($and/1/a/$gt,+)");
        Told.due("{a: {$eq: 5L, $in: [4, 5]}}", "2[a/$eq,a/$eq]");
        Told.due("{a: {$in: [4, 5, 5L], $eq: 5L}}", "2[a/$in/1,a/$in/1]");
        Told.due("{a: {$gte: 5, $eq: 5L}}", "2[a/$gte,a/$eq]");
        Told.due("{a: {$lte: 5, $eq: 5L}}", "2[a/$eq,a/$lte]");
        Told.due("{a: {$gte: 5, $in: [7, 3, 5]}}", "2[a/$gte,a/$in/2] 2[a/$in/0,a/$in/0]");
        Told.due("{a: {$gte: null, $lte: null}}", "1[a/$gte,a/$gte]");
        Told.due("{$and: [{a: {$gte: 5}}, {a: {$lte: 5}}], a: 5}", "2[$and/0/a/$gte,$and/1/a/$lte]");
        Told.due("{a: {$elem: {$gte: 5, $eq: 5L}}}", "2[a/$elem/$gte,a/$elem/$eq] 5(-,+)");
    }

    private static void noValueBetween() {
        Checks.by("without those that have no value between their ends, or at them: of one class");
        Told.due("{a: {$gt: 5, $lt: 'x'}}", "");
        Told.due("{a: {$lt: 5, $gt: 'x'}}", "");
        Told.due("{a: {$eq: null, $lt: 1}}", "");
        Told.due("{a: {$gt: {}, $lt: true}}", "");
        Told.due("{a: {$in: [null, 1, 'x', {}, true], $lt: 'y'}}", "3[a/$in/2,a/$in/2]");
        Checks.by("without those: the low one is greater");
        Told.due("{a: {$gt: 5, $lt: 3}}", "");
        Told.due("{a: {$gte: 5, $lte: 4}}", "");
        Told.due("{a: {$gt: 'ba', $lt: 'b'}}", "");
        Told.due("{a: {$gte: true, $lte: false}}", "");
        Told.due("{a: {$in: [1, 9], $gt: 3, $lt: 7}}", "");
        Checks.by("without those: or they are the SAME and not both IN");
        Told.due("{a: {$gt: 5, $lt: 5}}", "");
        Told.due("{a: {$gte: 5, $lt: 5}}", "");
        Told.due("{a: {$gt: 5, $lte: 5}}", "");
        Told.due("{a: {$gt: 5, $lte: 5L}}", "");
        Told.due("{a: {$gte: 5L, $lt: 5}}", "");
        Told.due("{a: {$eq: 5, $gt: 5}}", "");
        Told.due("{a: {$eq: 5, $lt: 5L}}", "");
        Told.due("{a: {$in: [5, 6], $gt: 5}}", "2[a/$in/1,a/$in/1]");
        Told.due("{a: {$in: [5, 6], $lt: 6}}", "2[a/$in/0,a/$in/0]");
        Checks.by("without those: the SAME, and both IN");
        Told.due("{a: {$gte: 5, $lte: 5}}", "2[a/$gte,a/$lte]");
        Told.due("{a: {$gte: 5, $lte: 5L}}", "2[a/$gte,a/$lte]");
        Told.due("{a: {$lte: 'x', $gte: 'x'}}", "3[a/$gte,a/$lte]");
        Told.due("{a: {$gte: {b: 1}, $lte: {b: 1L}}}", "4[a/$gte,a/$lte]");
    }

    private static void betweenThereAreValues() {
        Checks.by("Between two values there are values always, for this");
        Told.due("{a: {$gt: 5, $lt: 6}}", "2(a/$gt,a/$lt)");
        Told.due("{a: {$gt: 5, $lte: 6}}", "2(a/$gt,a/$lte]");
        Told.due("{a: {$gt: 'b', $lt: 'b\0'}}", "3(a/$gt,a/$lt)");
        Told.due("{a: {$gt: false, $lt: true}}", "6(a/$gt,a/$lt)");
        Told.due("{a: {$gt: {}, $lt: {'': null}}}", "4(a/$gt,a/$lt)");
        Told.due("{a: {$gt: 9223372036854775806L, $lt: 9223372036854775807L}}", "2(a/$gt,a/$lt)");
        Checks.by("and between a class's beginning or end and a value, too.");
        Told.due("{a: {$lt: -9223372036854775808L}}", "2(-,a/$lt)");
        Told.due("{a: {$gt: 9223372036854775807L}}", "2(a/$gt,+)");
        Told.due("{a: {$lt: ''}}", "3(-,a/$lt)");
        Told.due("{a: {$lt: {}}}", "4(-,a/$lt)");
        Told.due("{a: {$lt: false}}", "6(-,a/$lt)");
        Told.due("{a: {$gt: true}}", "6(a/$gt,+)");
        Told.due("{a: {$lt: false, $lte: true}}", "6(-,a/$lt)");
        Told.due("{a: {$gt: true}, $and: [{a: {$gte: false}}]}", "6(a/$gt,+)");
        Told.due("{a: {$elem: {$gt: true, $gte: true}}}", "5(-,+) 6(a/$elem/$gt,+)");
    }

    private static void directions() {
        Checks.by("They are numbered from 0 on in the direction in which the index goes there: "
                + "UP from the least, DOWN from the greatest");
        String in = "{a: {$in: [true, {}, 'x', 5L, null, 5, 'w', false, 4]}}";
        String[] up = "1[4,4] 2[8,8] 2[3,3] 3[6,6] 3[2,2] 4[1,1] 6[7,7] 6[0,0]".split(" ");
        StringBuilder ascending = new StringBuilder();
        StringBuilder descending = new StringBuilder();
        for (int i = 0; i < up.length; i++) {
            String blank = i == 0 ? "" : " ";
            ascending.append(blank).append(named(up[i]));
            descending.append(blank).append(named(up[up.length - 1 - i]));
        }
        Told.due(in, ascending.toString());
        Told.dueManyKeyed(in, ascending.toString());
        Told.dueDown(in, descending.toString());
        Told.due(in, 1 + 4, descending.toString());
        Told.dueDown("{a: {$elem: {$in: [true, 1]}}}",
                "6[a/$elem/$in/0,a/$elem/$in/0] 5(-,+) 2[a/$elem/$in/1,a/$elem/$in/1]");
        Told.dueDown("{a: {$in: []}}", "");
        Told.dueDown("{a: 1}", "2[a,a]");
        Checks.by("(the low END of one is the lesser in both)");
        Told.dueDown("{a: {$gt: 1, $lte: 5}}", "2(a/$gt,a/$lte]");
        Told.dueDown("{a: {$lt: 5}}", "2(-,a/$lt)");
        Told.dueDown("{a: {$gte: 5}}", "2[a/$gte,+)");
        Told.dueDown("{a: {$elem: {$gte: true}}}", "6[a/$elem/$gte,+) 5(-,+)");
    }

    /** 2[3,3] with the names of item 3. */
    private static String named(String span) {
        String item = "a/$in/" + span.charAt(2);
        return span.charAt(0) + "[" + item + "," + item + "]";
    }
}
