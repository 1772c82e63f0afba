/** The boundaries that the document names for swaps, mergers, what those gain, and thefts. */
public final class DealsBoundsTest {
    private static PaperBoard x;

    private static void told(String call, int paper, int what, int due) {
        Check.is(call + ": told(" + paper + ", " + what + ")", x.told(paper, what), due);
    }

    /** Two admitted papers in month 1, of which the first has so much stock. */
    private static void two(int stock) {
        x = Boards.admitted(1, 0);
        Boards.reels(x, stock);
        if (stock > 0) x.months(1);
        told("stock", 0, 7, stock);
    }

    private static void swaps(int hundredths, int kilograms, int due) {
        two(kilograms);
        Check.order(x, 0, "swap " + hundredths + ";");
        String call = hundredths + " hundredths of " + kilograms;
        Check.is(call, x.swap(0, 1, kilograms), due);
        told(call, 0, 7, 0);
        told(call, 1, 7, due);
        Check.is(call + " netted", x.netted(1, 0), due);
        Check.is(call + " netted the other way round", x.netted(0, 1), -due);
    }

    private static void swapping() {
        Check.words("swap hundredths of them, cut, come to that one, the rest is lost", () -> {
            swaps(100, 1, 1);
            swaps(99, 1, 0);
            swaps(1, 99, 0);
            swaps(1, 100, 1);
            swaps(1, 199, 1);
            swaps(50, 3, 1);
            swaps(99, 100, 99);
            swaps(99, 101, 99);
            swaps(100, 100000, 100000);
            swaps(1, 100000, 1000);
        });
        Check.words("kilograms are not 1 to 100,000", () -> {
            two(102000);
            Check.bounded("swap", 1, 100000, v -> x.swap(0, 1, v));
            told("the least and the most went", 0, 7, 102000 - 100001);
            Check.noNumber("0 of one with itself", () -> x.swap(0, 0, 0));
            Check.noNumber("100,001 that aren't there", () -> x.swap(0, 1, 100001));
        });
        Check.words("-1 one isn't ADMITTED, or both are one; -2 there is not so much STOCK; -3 swap is 0", () -> {
            two(10);
            Check.is("just as much", x.swap(0, 1, 10), 10);
            Check.is("1 of none", x.swap(0, 1, 1), -2);
            Check.is("one more than there is", x.swap(1, 0, 11), -2);
            Check.is("the most", x.swap(1, 0, 100000), -2);
            Check.is("both are one", x.swap(1, 1, 1), -1);
            Check.is("both are one, and there is not so much", x.swap(0, 0, 1), -1);
            Boards.plain(x, 1);
            Check.is("one in the queue", x.swap(1, 2, 1), -1);
            Check.is("one in the queue, and there is not so much", x.swap(2, 1, 1), -1);
            Check.is("both are one in the queue", x.swap(2, 2, 1), -1);
            Check.order(x, 0, "swap 0;new 0;");
            Check.is("swap is 0", x.swap(1, 0, 10), -3);
            Check.is("swap is 0, and there is not so much", x.swap(1, 0, 11), -2);
            Check.is("swap is 0, and both are one", x.swap(1, 1, 1), -1);
            x.merge(0, 1);
            Check.is("one that is gone", x.swap(0, 1, 1), -1);
            Check.is("from one that is gone", x.swap(1, 0, 1), -1);
            told("nothing went", 0, 7, 10);
        });
        Check.words("NETTED are SWAPS of this MONTH between two PAPERS: what came to one less what came to the other.", () -> {
            x = Boards.admitted(1, 1, 0);
            Boards.reels(x, 4000);
            x.months(1);
            Check.is("no swaps", x.netted(0, 1), 0);
            x.swap(0, 1, 100);
            x.swap(0, 1, 50);
            x.swap(1, 0, 30);
            x.swap(0, 2, 7);
            Check.is("three swaps", x.netted(1, 0), 120);
            Check.is("with another one", x.netted(2, 0), 7);
            Check.is("with nobody", x.netted(2, 1), 0);
            Check.is("of one and itself", x.netted(0, 0), 0);
            x.swap(1, 0, 120);
            Check.is("as much there as back", x.netted(1, 0), 0);
            x.swap(1, 2, 5);
            x.merge(0, 1);
            Check.is("with one that is gone", x.netted(2, 1), 5);
            x.months(0);
            Check.is("no month went by", x.netted(2, 1), 5);
            x.months(1);
            for (int p = 0; p < 3; p++) for (int q = 0; q < 3; q++) Check.is("another month", x.netted(p, q), 0);
            x = Boards.admitted(1, 1, 1, 1, 1, 1, 1, 1, 1, 1, 1, 1);
            Boards.reels(x, 12);
            x.months(1);
            Check.is("the first of twelve to the last", x.swap(0, 11, 1), 1);
            Check.is("to the last of twelve", x.netted(11, 0), 1);
            Check.is("from the first of twelve", x.netted(0, 11), -1);
        });
    }

    /** Merges two papers of these numbers: what the first one has then of it. */
    private static int merged(int what, int first, int second) {
        x = new PaperBoard();
        x.ward(1000);
        x.ward(1000);
        for (int v : new int[] {first, second}) x.paper(0, what == 1 ? v : 1, what == 2 ? v : 0, 2, 1);
        x.months(1);
        Check.is("merge", x.merge(0, 1), 1);
        told("the second one", 1, what, 0);
        return x.told(0, what);
    }

    private static void merging() {
        Check.words("BASE (100,000 at most)", () -> {
            Check.is("0 and 0", merged(1, 0, 0), 0);
            Check.is("0 and 7", merged(1, 0, 7), 7);
            Check.is("99,999 together", merged(1, 50000, 49999), 99999);
            Check.is("100,000 together", merged(1, 50000, 50000), 100000);
            Check.is("100,001 together", merged(1, 50000, 50001), 100000);
            Check.is("200,000 together", merged(1, 100000, 100000), 100000);
        });
        Check.words("COPIES (1,000 at most)", () -> {
            Check.is("0 and 0", merged(2, 0, 0), 0);
            Check.is("0 and 7", merged(2, 0, 7), 7);
            Check.is("999 together", merged(2, 500, 499), 999);
            Check.is("1,000 together", merged(2, 500, 500), 1000);
            Check.is("1,001 together", merged(2, 500, 501), 1000);
            Check.is("2,000 together", merged(2, 1000, 1000), 1000);
        });
        Check.words("LOYAL of both (100 at most in each WARD)", () -> {
            int[][] parts = {{0, 0, 0}, {0, 7, 7}, {7, 0, 7}, {50, 49, 99}, {50, 50, 100}, {50, 51, 100}, {100, 100, 100}};
            for (int[] p : parts) {
                x = Boards.admitted(1, 1);
                for (int w = 0; w < 5; w++) {
                    x.ward(1000);
                    x.loyal(w, 0, w == 0 ? 60 : p[0]);
                    x.loyal(w, 1, w == 0 ? 60 : p[1]);
                }
                x.merge(0, 1);
                Check.is("60 and 60", x.loyal(0, 0, 0), 100);
                for (int w = 1; w < 5; w++) Check.is(p[0] + " and " + p[1], x.loyal(w, 0, 0), p[2]);
                for (int w = 0; w < 5; w++) Check.is("of the second one", x.loyal(w, 1, 0), 0);
            }
        });
        Check.words("STOCK, RIGHT, COINS, REELS of both", DealsBoundsTest::whatBothHave);
        Check.words("MERGED are two ADMITTED ones", () -> {
            x = Boards.admitted(1, 1, 1);
            Boards.plain(x, 1);
            Check.is("both are one", x.merge(0, 0), -1);
            Check.is("one in the queue", x.merge(0, 3), -1);
            Check.is("into one in the queue", x.merge(3, 0), -1);
            Check.is("merge", x.merge(0, 1), 1);
            Check.is("again", x.merge(0, 1), -1);
            Check.is("into one that is gone", x.merge(1, 2), -1);
            Check.is("one that is gone with itself", x.merge(1, 1), -1);
            Check.is("merge", x.merge(2, 0), 1);
            told("the second one", 2, 1, 3);
            Check.is("admitted", x.count(2), 1);
            Check.is("papers", x.count(1), 4);
        });
        Check.words("the second is GONE (with all these 0)", () -> {
            x = new PaperBoard();
            x.paper(0, 1, 0, 2, 1);
            x.paper(2, 5, 6, 7, 8);
            x.set(1, 3, 9);
            x.reel(100, 0);
            x.months(1);
            x.merge(0, 1);
            // What it used in its last month stays.
            int[] due = {2, 0, 0, 7, 8, 9, 0, 0, 0, 2, 12};
            for (int w = 0; w <= 10; w++) told("gone", 1, w, due[w]);
            x.months(1);
            for (int w = 0; w <= 10; w++) told("gone a month later", 1, w, due[w]);
        });
    }

    /** All that may be below 0 is so of one, of the other one, or of both. */
    private static void whatBothHave() {
        x = Boards.admitted(1, 1, 1);
        Check.order(x, 1, "way bids;");
        x.reel(100, 0);
        x.reel(200, 0);
        x.bid(0, 10, 3);
        x.bid(1, 20, 2);
        x.bid(2, 30, 1);
        x.months(1);
        // Reel 0 to paper 2, reel 1 to paper 1.
        int[][] due = {{-30, 0, 10}, {-40, 200, -180}, {-30, 100, -70}};
        for (int p = 0; p < 3; p++) for (int w = 6; w <= 8; w++) told("of three", p, w, due[p][w - 6]);
        x.merge(1, 0);
        told("coins", 1, 6, -70);
        told("stock", 1, 7, 200);
        told("right", 1, 8, -170);
        x.merge(1, 2);
        told("coins", 1, 6, -100);
        told("stock", 1, 7, 300);
        told("right", 1, 8, -240);
        for (int r = 0; r < 2; r++) Check.is("where(" + r + ")", x.where(r), 1);
        for (int p = 0; p < 3; p += 2) for (int w = 6; w <= 8; w++) told("of one that is gone", p, w, 0);
    }

    /** What a merger doesn't name stays with each of the two. */
    private static void whatStaysWithEach() {
        Check.words("the second is GONE (with all these 0)", () -> {
            x = new PaperBoard();
            x.paper(0, 1, 1, 2, 50);
            x.paper(0, 1, 1, 3, 51);
            Check.order(x, 0, "pages daily 2;price 50;");
            x.source(0, 1, 2);
            x.source(1, 3, 4);
            x.source(1, 4, 5);
            x.months(1);
            x.bid(1, 100, 5);
            x.reel(100, 0);
            x.merge(0, 1);
            int[][] due = {{0, -1, 0, -1, -1}, {2, 0, 3, 0, 0}};
            for (int p = 0; p < 2; p++) for (int w = 0; w <= 4; w++) Check.is("breach(" + p + ", " + w + ")", x.breach(p, w), due[p][w]);
            Check.is("borne by the first one's", x.borne(0, 2), 1);
            Check.is("borne by the second one's", x.borne(1, 2), 2);
            Check.is("its bid is nobody's", x.parted(0, 3), 0);
            told("the first one's pages", 0, 3, 2);
            told("the first one's price", 0, 4, 50);
        });
    }

    private static void gains() {
        Check.words("what the first would have of the POOL now, if PARTED behind it, less what both would have, if PARTED as they are", () -> {
            x = Boards.admitted(60000, 60000, 80000);
            Check.is("of no pool", x.gain(0, 1), 0);
            Boards.reels(x, 2000);
            // 600 and 600; of 100,000 and 80,000 the first has 1,111.1.
            Check.is("a base that is 100,000 at most", x.gain(0, 1), 1111 - 1200);
            // 600 and 800; of 100,000 and 60,000 the first has 1,250.
            Check.is("a base that is 100,000 at most", x.gain(2, 0), 1250 - 1400);
            Check.order(x, 0, "least 1000;");
            Check.is("least", x.gain(0, 1), 1000 - 2000);
            Check.order(x, 0, "least 700;");
            // 700, 700, 600; behind it 700 and 700, and of the 600 that remain 333.3 and 266.7.
            Check.is("least", x.gain(0, 1), 700 + 333 - 1400);
            Check.order(x, 0, "way points;");
            Check.is("without points", x.gain(0, 1), 0);
            for (int w = 0; w < 11; w++) told("nothing changes", 1, w, new int[] {0, 60000, 0, 2, 1, 0, 0, 0, 0, 1, 0}[w]);
        });
        Check.words("bids as told: the first one's alone behind it", () -> {
            x = Boards.admitted(1, 1, 1);
            Boards.reels(x, 100);
            Check.order(x, 0, "way bids;");
            Check.is("no bids", x.gain(0, 1), 0);
            x.bid(1, 60, 5);
            Check.is("the second one's alone", x.gain(0, 1), -60);
            Check.is("the first one's alone", x.gain(1, 0), 0);
            x.bid(2, 100, 1);
            Check.is("the first one's alone", x.gain(1, 2), 60 - 100);
            Check.is("the one that is left out", x.gain(2, 1), 100 - 100);
        });
        Check.words("GAIN; NOTHING: one isn't ADMITTED, or both are one.", () -> {
            x = Boards.admitted(1, 1, 1);
            Boards.plain(x, 1);
            x.merge(0, 1);
            Boards.reels(x, 100);
            int[][] pairs = {{0, 0}, {0, 1}, {1, 0}, {1, 1}, {0, 3}, {3, 0}, {3, 3}, {1, 3}};
            for (int[] p : pairs) Check.is("gain(" + p[0] + ", " + p[1] + ")", x.gain(p[0], p[1]), PaperBoard.NOTHING);
            Check.is("of two that are admitted", x.gain(0, 2), 0);
        });
    }

    private static void thefts() {
        Check.words("its STOCK is DRY less, 0 at least", () -> {
            int[][] due = {{0, 50}, {49, 1}, {50, 0}, {51, 0}, {100, 0}};
            for (int[] d : due) {
                x = Boards.admitted(1, 0);
                x.reel(50, 0);
                x.reel(50, 0);
                x.months(1);
                if (d[0] > 0) x.swap(0, 1, d[0]);
                Check.is("steal", x.steal(0), 0);
                told("a reel of 50, and " + d[0] + " are gone", 0, 7, d[1]);
                told("the right stays", 0, 8, 0);
                Check.is("where", x.where(0), -2);
            }
            x = Boards.withStock(1);
            x.reel(1, 500);
            x.reel(1, 0);
            Check.is("a reel of nothing, out of the store", x.steal(1), -1);
            told("stock", 0, 7, 1);
        });
        Check.words("Where a REEL is: the PAPER; -1 the STORE; -2 STOLEN.", () -> {
            x = Boards.admitted(0, 0, 0, 0, 0, 0, 0, 0, 0, 0, 0, 1);
            x.reel(7, 0);
            Check.is("the store", x.where(0), -1);
            x.months(1);
            Check.is("the last of twelve", x.where(0), 11);
            Check.is("steal", x.steal(0), 11);
            Check.is("stolen", x.where(0), -2);
            Check.is("again", x.steal(0), -3);
            Check.is("stolen reels", x.count(11), 1);
        });
        Check.words("A REEL is found: its DRY; -1: it is not STOLEN.", () -> {
            x = Boards.withStock(7);
            x.reel(9, 0);
            Check.is("with a paper", x.find(0), -1);
            Check.is("in the store", x.find(1), -1);
            x.steal(0);
            Check.is("stolen", x.find(0), 7);
            Check.is("again", x.find(0), -1);
            Check.is("in the store", x.where(0), -1);
            Check.is("the pool", x.count(5), 16);
            Check.is("stolen reels", x.count(11), 0);
            told("stock", 0, 7, 0);
        });
    }

    public static void main(String[] args) {
        swapping();
        merging();
        whatStaysWithEach();
        gains();
        thefts();
        Check.end("DealsBoundsTest");
    }
}
