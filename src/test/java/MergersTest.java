/** Promises 20 to 23: swaps, what is netted, mergers and what they gain. */
public final class MergersTest {
    private static PaperBoard x;

    private static void told(String call, int paper, int... due) {
        for (int w = 0; w < due.length; w++) Check.is(call + " told(" + paper + ", " + w + ")", x.told(paper, w), due[w]);
    }

    /** Two admitted papers with 1,000 kilograms each, and one that waits. */
    private static void board() {
        x = new PaperBoard();
        x.paper(0, 100, 0, 2, 1);
        x.paper(1, 100, 0, 2, 1);
        x.reel(1000, 0);
        x.reel(1000, 0);
        x.months(1);
        Check.order(x, 1, "new 0;swap 33;");
        Check.order(x, 4, "new 0;swap 0;");
        x.paper(2, 100, 0, 2, 1);
    }

    private static void swaps() {
        board();
        Check.noIndex("paper 3", () -> x.swap(3, 0, 1));
        Check.noIndex("other 3", () -> x.swap(0, 3, 0));
        Check.noIndex("other -1", () -> x.swap(0, -1, 1));
        Check.noNumber("0 kilograms", () -> x.swap(0, 1, 0));
        Check.noNumber("100001 kilograms", () -> x.swap(0, 1, 100001));
        Check.is("both are one", x.swap(0, 0, 1), -1);
        Check.is("one waits", x.swap(2, 0, 5000), -1);
        Check.is("the other waits", x.swap(0, 2, 5000), -1);
        Check.is("not so much", x.swap(0, 1, 1001), -2);
        Check.is("swap", x.swap(0, 1, 10), 3);
        Check.is("swap of a little", x.swap(0, 1, 3), 0);
        Check.is("stock", x.told(0, 7), 987);
        Check.is("stock", x.told(1, 7), 1003);
        Check.is("all of it", x.swap(1, 0, 1003), 330);
        Check.is("stock", x.told(0, 7), 1317);
        Check.is("stock", x.told(1, 7), 0);
        Check.is("netted", x.netted(0, 1), 327);
        Check.is("netted", x.netted(1, 0), -327);
        Check.is("netted of one", x.netted(0, 0), 0);
        Check.is("netted with another one", x.netted(0, 2), 0);
        Check.noIndex("netted 3", () -> x.netted(3, 0));
        Check.noIndex("netted other 3", () -> x.netted(0, 3));
        Check.noIndex("netted -1", () -> x.netted(-1, 0));
        x.months(0);
        Check.is("no month went by", x.netted(0, 1), 327);
        x.months(1);
        Check.is("another month", x.netted(0, 1), 0);
        x.months(2);
        Check.is("swap is 0", x.swap(0, 1, 1), -3);
        Check.is("swap is 0, but there is not so much", x.swap(0, 1, 5000), -2);
        Check.is("swap is 0, but one waits", x.swap(0, 2, 1), -1);
        Check.is("nothing is lost", x.told(0, 7), 1317);
    }

    private static void whatAMergerMoves() {
        x = new PaperBoard();
        x.ward(1000);
        x.ward(1000);
        x.paper(0, 60000, 600, 10, 11);
        x.paper(1, 50000, 500, 20, 21);
        x.paper(2, 0, 0, 30, 31);
        x.set(0, 3, 5);
        x.set(1, 3, 6);
        x.reel(1000, 0);
        x.reel(1000, 0);
        x.reel(1, 0);
        Check.order(x, 0, "fine 7;pages weekly 18;new 2;");
        Check.order(x, 1, "new 0;");
        x.months(1);
        // 2001: 1091.45.., 909.54..: 1091 and 910; reels 0 to paper 0 (91), 1 to 1 (-90), 2 to 0 (90).
        // Paper 0 prints 333 hundreds, which take 999; paper 1 166, which take 996; nobody buys them.
        told("first", 0, 0, 60000, 600, 10, 11, 5, 0, 2, 90, 1, 999);
        told("second", 1, 1, 50000, 500, 20, 21, 6, -14, 4, -90, 1, 996);
        x.loyal(0, 0, 60);
        x.loyal(0, 1, 50);
        x.loyal(1, 0, 30);
        x.loyal(1, 1, 20);
        x.swap(1, 0, 1);
        Check.noIndex("paper 3", () -> x.merge(3, 0));
        Check.noIndex("other 3", () -> x.merge(0, 3));
        Check.noIndex("other -1", () -> x.merge(0, -1));
        Check.is("one waits", x.merge(0, 2), -1);
        Check.is("one waits", x.merge(2, 0), -1);
        Check.is("both are one", x.merge(1, 1), -1);
        Check.is("merge", x.merge(0, 1), 1);
        told("first", 0, 0, 100000, 1000, 10, 11, 5, -14, 6, 0, 1, 999);
        told("second", 1, 1, 0, 0, 20, 21, 6, 0, 0, 0, 2, 996);
        Check.is("where", x.where(1), 0);
        Check.is("loyal, 100 at most", x.loyal(0, 0, 0), 100);
        Check.is("loyal, together", x.loyal(1, 0, 0), 50);
        Check.is("loyal to one that is gone", x.loyal(0, 1, 0), 0);
        Check.is("loyal to one that is gone", x.loyal(1, 1, 0), 0);
        Check.is("admitted", x.count(2), 1);
        Check.is("papers", x.count(1), 3);
        Check.is("netted", x.netted(0, 1), 1);
        Check.is("breaches stay", x.breach(1, 0), 1);
        Check.is("again", x.merge(0, 1), -1);
        Check.is("from one that is gone", x.merge(1, 0), -1);
        Check.is("swap with one that is gone", x.swap(0, 1, 1), -1);
        Check.is("bid of one that is gone", x.bid(1, 1, 1), -1);
        Check.is("parted of one that is gone", x.parted(1, 2), 0);
        Check.is("steal", x.steal(1), 0);
        Check.is("stock", x.told(0, 7), 0);
        x.months(1);
        told("one that is gone stays so", 1, 1, 0, 0, 20, 21, 6, 0, 0, 0, 2, 996);
    }

    /** Every reel of the second one goes along, the first of all, too, and of nobody else. */
    private static void reelsThatMove() {
        x = new PaperBoard();
        x.paper(0, 10, 0, 2, 1);
        x.paper(0, 20, 0, 2, 1);
        x.paper(0, 10, 0, 2, 1);
        for (int i = 0; i < 4; i++) x.reel(10, 0);
        x.months(1);
        x.reel(10, 0);
        x.reel(10, 0);
        x.steal(5);
        int[] before = {1, 0, 1, 2, -1, -2};
        for (int i = 0; i < 6; i++) Check.is("where(" + i + ")", x.where(i), before[i]);
        x.merge(2, 1);
        int[] behind = {2, 0, 2, 2, -1, -2};
        for (int i = 0; i < 6; i++) Check.is("where(" + i + ")", x.where(i), behind[i]);
    }

    private static void gains() {
        x = new PaperBoard();
        x.paper(0, 60000, 600, 10, 11);
        x.paper(1, 60000, 500, 20, 21);
        x.paper(2, 60000, 0, 30, 31);
        x.months(1);
        Check.order(x, 0, "new 0;");
        x.paper(2, 60000, 0, 30, 31);
        x.reel(1800, 0);
        Check.noIndex("paper 4", () -> x.gain(4, 0));
        Check.noIndex("other 4", () -> x.gain(0, 4));
        Check.noIndex("other -1", () -> x.gain(0, -1));
        Check.is("one waits", x.gain(0, 3), PaperBoard.NOTHING);
        Check.is("one waits", x.gain(3, 0), PaperBoard.NOTHING);
        Check.is("both are one", x.gain(0, 0), PaperBoard.NOTHING);
        // 100000 of 160000 are 1125; both had 1200
        Check.is("gain by base", x.gain(0, 1), -75);
        Check.order(x, 0, "new 0;way alike;");
        Check.is("gain alike", x.gain(0, 1), 900 - 1200);
        Check.order(x, 0, "new 0;part copies;");
        // 600, 500, 0 of 1100: 981.8, 818.1; 1000 of 1000
        Check.is("gain by copies", x.gain(0, 1), 0);
        Check.order(x, 0, "new 0;part copies*copies;");
        // 600*600, 0: 1800; behind it the same
        Check.is("gain of one without copies", x.gain(0, 2), 0);
        Check.order(x, 0, "new 0;least 100;");
        // 100 each, 1500: 500 each: 1200; behind it 100 each, 1600: 1000: 1100
        Check.is("gain with least", x.gain(0, 1), -100);
        Check.order(x, 0, "new 0;way points;");
        x.set(0, 3, 10);
        x.set(1, 3, 20);
        x.set(2, 3, 30);
        // 300 and 600; behind it 10 of 40: 450
        Check.is("gain by points", x.gain(0, 1), -450);
        // 20 of 50: 720
        Check.is("the other way round", x.gain(1, 0), -180);
        Check.order(x, 0, "new 0;way bids;");
        x.bid(0, 500, 5);
        x.bid(1, 700, 4);
        x.bid(2, 1000, 3);
        Check.is("gain by bids: the first one's alone", x.gain(0, 1), -700);
        Check.is("gain by bids: the first one's alone", x.gain(2, 1), 1000 - 1300);
        told("nothing changes", 0, 0, 60000, 600, 10, 11, 10, 0, 0, 0, 1, 0);
        told("nothing changes", 1, 1, 60000, 500, 20, 21, 20, 0, 0, 0, 1, 0);
        Check.is("bids stay", x.parted(1, 3), 700);
    }

    /** The part may go by stock: that of both. */
    private static void gainByStock() {
        x = new PaperBoard();
        x.paper(0, 30, 0, 2, 1);
        x.paper(0, 10, 0, 2, 1);
        x.paper(0, 10, 0, 2, 1);
        x.reel(300, 0);
        x.reel(100, 0);
        x.reel(100, 0);
        x.months(1);
        Check.order(x, 0, "part stock*stock;");
        x.reel(1000, 0);
        // 90000, 10000, 10000: 818.1.., 90.9, 90.9: 818, 91, 91; behind it 160000 and 10000: 941.1, 58.8: 941
        Check.is("gain by stock", x.gain(0, 1), 941 - 818 - 91);
        Check.is("gain by stock", x.gain(1, 0), 941 - 818 - 91);
        Check.is("stock stays", x.told(0, 7), 300);
        Check.is("stock stays", x.told(1, 7), 100);
    }

    public static void main(String[] args) {
        swaps();
        whatAMergerMoves();
        reelsThatMove();
        gains();
        gainByStock();
        Check.end("MergersTest");
    }
}
