/** Promise 2: feed. */
public final class FeedTest {
    public static void main(String[] args) {
        BoundsPlanner x = new BoundsPlanner();
        for (int n = 20; n <= 2000; n += 20) {
            Checks.due("feed", x.feed(n, n, n, n, n), n);
        }
        Checks.due("feed beyond 2000", x.feed(0, 0, 0, 0, 0), -1);
        Checks.due("feed beyond 2000 again", x.feed(0, 0, 0, 0, 0), -1);
        Checks.due("more than there are", x.filter(2001), -2);
        Checks.due("all there are", x.filter(2000), -1);
        Checks.due("feed on the emptied tape", x.feed(0, 0, 0, 0, 0), 20);
        highestByteFirst();
        fullTapeStaysAsItWas();
        Checks.finish("FeedTest");
    }

    private static void highestByteFirst() {
        BoundsPlanner x = new BoundsPlanner();
        x.feed(0x14000000, 0x02764100, 0x07000000, 0x61C3A9E2, 0x82AC0000);
        Checks.due("a text over three numbers", x.value(20), 2);
        x.feed(0x15000000, 0x02764100, 0x08000000, 0x61C3A9F0, 0x9F988000);
        Checks.due("behind it", x.feed(0, 0, 0, 0, 0), 40);
        Checks.due("a text over two feeds", x.value(21), 2);
    }

    private static void fullTapeStaysAsItWas() {
        BoundsPlanner x = new BoundsPlanner();
        x.feed(0x61620000, 0, 0, 0, 0);
        for (int n = 40; n <= 2000; n += 20) {
            x.feed(0, 0, 0, 0, 0);
        }
        Checks.due("feed beyond", x.feed(-1, -1, -1, -1, -1), -1);
        Checks.due("index by its first bytes", x.index(7, 1, 1, 0), 0);
    }
}
