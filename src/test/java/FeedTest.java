import java.util.Arrays;

/** Promise 2: feed. */
public final class FeedTest {
    public static void main(String[] args) {
        behindThoseOnTheTape();
        highestFirst();
        howManyThereAre();
        twoThousand();
        moreThanTwoThousand();
        Checks.finish("FeedTest");
    }

    /** Each byte is in the path, so a byte in a wrong place leaves the path FREE. */
    private static void pathOfAllBytes(String path) {
        Planner x = new Planner();
        byte[] bytes = Val.utf8(path);
        Tape.feed(x, bytes);
        Checks.due("index of " + path, x.index(0, bytes.length, 0, 0), 0);
        Tape.filter(x, new Val(3).with(path, Val.whole(1)).bytes());
        Checks.due("rank of " + path, x.rank(0), 2);
    }

    private static void behindThoseOnTheTape() {
        Checks.by("Twenty bytes come behind those on the tape");
        pathOfAllBytes("abcdefghijklmnopqrst");
        pathOfAllBytes("abcdefghijklmnopqrstABCDEFGHIJKLMNOPQRST");
        pathOfAllBytes("abcdefghijklmnopqrstABCDEFGHIJKLMNOPQRST0123456789");
    }

    private static void highestFirst() {
        Checks.by("four of each number, the highest first");
        Planner x = new Planner();
        x.feed(0x61626364, 0x65666768, 0x696A6B6C, 0x6D6E6F70, 0x71727374);
        Checks.due("index of abcd..t", x.index(0, 20, 0, 0), 0);
        Tape.filter(x, "{abcdefghijklmnopqrst: 1}");
        Checks.due("rank of abcd..t", x.rank(0), 2);
        Checks.by("four of each number: bytes above 127 (the sign of the number, too)");
        pathOfAllBytes("\u00e9\u00e9\u00ea\u00ea\u00eb\u00eb\u00ec\u00ec\u00ed\u00ed");
        pathOfAllBytes("\ud83d\ude00\ud83d\ude01\ud83d\ude02\ud83d\ude03\ud83d\ude04");
        pathOfAllBytes("abc\u00ffdef\u20acg\u20ach\u00fe");
    }

    private static void howManyThereAre() {
        Checks.by("feed: how many there are");
        Planner x = new Planner();
        for (int n = 20; n <= 2000; n += 20) {
            Checks.due("feed", x.feed(n, -n, n, -n, n), n);
        }
        x.filter(2000);
        Checks.due("feed on the emptied tape", x.feed(0, 0, 0, 0, 0), 20);
        x.value(3);
        Checks.due("feed behind a value of three bytes", x.feed(0, 0, 0, 0, 0), 20);
    }

    private static byte[] fullDocument() {
        return new Val(3).with("a", Val.text("x".repeat(2000 - 13))).bytes();
    }

    private static void twoThousand() {
        Checks.by("not more than 2,000: just so many do");
        Planner x = new Planner();
        byte[] full = fullDocument();
        Checks.due("bytes", full.length, 2000);
        Tape.feed(x, Arrays.copyOf(full, 1980));
        Checks.due("the last twenty", x.feed(0x78787878, 0x78787878, 0x78787878, 0x78787878, 0x78780000), 2000);
        Checks.due("all of them", x.value(2000), 2);
    }

    private static void moreThanTwoThousand() {
        Checks.by("-1, doing nothing, when there would be more than 2,000.");
        Planner x = Scene.withoutTape();
        byte[] full = fullDocument();
        Tape.feed(x, full);
        for (int i = 0; i < 3; i++) {
            Checks.due("feed on the full tape", x.feed(-1, -1, -1, -1, -1), -1);
        }
        Scene.hasIndexesAndFilter("a refused feed", x);
        Scene.hasValue("a refused feed", x);
        Checks.due("more than 2000", x.filter(2001), -2);
        Checks.due("the bytes are as they were", x.value(2000), 2);
        Tape.index(x, 1, "z", "", 0);
        Tape.filter(x, new Val(3).with("z", Val.text("x".repeat(1987))).bytes());
        Checks.due("the text is as it was", x.inside(1, 0), 1);
        Checks.due("feed on the emptied tape", x.feed(0, 0, 0, 0, 0), 20);
    }
}
