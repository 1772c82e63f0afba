/** Promise 31: what a paper does best with its paper. */
public final class BestTest {
    private static PaperBoard x;

    private static void best(String call, int paper, int... due) {
        for (int w = 0; w < due.length; w++) Check.is(call + " best(" + paper + ", " + w + ")", x.best(paper, w), due[w]);
    }

    private static void board() {
        x = new PaperBoard();
        x.ward(1000);
        x.paper(0, 100, 0, 20, 30);
        x.paper(1, 0, 0, 20, 30);
        x.months(1);
        Check.order(x, 0, "new 0;");
        x.paper(0, 100, 0, 20, 30);
        x.loyal(0, 0, 10);
        x.loyal(0, 1, 10);
    }

    private static void wrongCalls() {
        board();
        Check.noNumber("best 4", () -> x.best(0, 4));
        Check.noNumber("best -1", () -> x.best(0, -1));
        Check.noNumber("best 4 of one that waits", () -> x.best(2, 4));
        Check.noIndex("paper 3", () -> x.best(3, 9));
        Check.noIndex("paper -1", () -> x.best(-1, 0));
        for (int w = 0; w < 4; w++) Check.is("of one that waits", x.best(2, w), PaperBoard.NOTHING);
        x.merge(0, 1);
        Check.is("of one that is gone", x.best(1, 0), PaperBoard.NOTHING);
    }

    private static void withoutStock() {
        board();
        // One hundred of two pages is printed of nothing, best at 60: 60 * 1 and no half of it.
        best("of nothing", 0, 2, 60, 1, 60);
        x.loyal(0, 0, 0);
        best("without demand", 0, 2, 1, 0, 0);
    }

    private static void withStock() {
        board();
        x.reel(1000, 0);
        x.months(1);
        // Demand is 100 - price: 50 at 50 of two pages: 2500, and 25, less two for each of 30.
        best("as demand has it", 0, 2, 50, 50, 2465);
        x.set(0, 1, 64);
        best("whatever its pages are", 0, 2, 50, 50, 2465);
        x.steal(0);
        x.reel(20, 0);
        x.months(0);
        Check.is("right", x.told(0, 8), 0);
        best("without stock", 0, 2, 60, 1, 60);
    }

    private static void stockAndRight() {
        board();
        x.reel(18, 0);
        x.months(1);
        Check.is("stock", x.told(0, 7), 18);
        Check.is("right", x.told(0, 8), 0);
        // 18 do for 31 hundreds (18.6); at 60 that is 1860, and 15, less 36.
        best("as stock has it", 0, 2, 60, 31, 1839);
        x.reel(7, 0);
        x.steal(1);
        x.reel(7, 0);
        x.reel(1, 0);
        x.bid(1, 1, 1);
        Check.order(x, 1, "way bids;");
        x.bid(0, 7, 1);
        x.bid(1, 1, 2);
        x.months(1);
        // 8: 1 to paper 1, 7 to paper 0: reel 2 to paper 0, reel 3 to paper 1.
        Check.is("stock", x.told(0, 7), 25);
        // 25 do for 43 hundreds (25.8), demand at 57: 43 * 57 = 2451, 42 * 58 = 2436
        best("as stock has it", 0, 2, 57, 43, 2451 + 21 - 50);
    }

    private static void aRightCounts() {
        x = new PaperBoard();
        x.ward(1000);
        x.paper(0, 50, 0, 20, 30);
        x.paper(0, 50, 0, 20, 30);
        x.loyal(0, 0, 10);
        x.loyal(0, 1, 10);
        x.reel(18, 0);
        x.months(1);
        // Each has a right to 9; the first one has the reel.
        Check.is("right", x.told(0, 8), -9);
        Check.is("right", x.told(1, 8), 9);
        best("a right below 0 counts as none", 0, 2, 60, 31, 1839);
        // 9 do for 16 hundreds (9.6): 960 + 8 - 18
        best("a right above 0", 1, 2, 60, 16, 950);
    }

    private static void pagesAndPrices() {
        board();
        x.reel(2000, 0);
        x.months(1);
        Check.order(x, 1, "pages daily 3;price pages*10+price;");
        // Two pages, 20 + 30: 50
        best("a price that is tied", 0, 2, 50, 50, 2465);
        Check.order(x, 1, "pages daily 7;price pages*10;");
        // 2 at 20: 80 * 20 + 40 - 96 = 1544; 4 at 40: 60 * 40 + 60 - 144 = 2316; 6 at 60: 40 * 60 + 60 - 144 = 2316
        best("of these the fewest pages", 0, 4, 40, 60, 2316);
        Check.order(x, 1, "pages daily 4;price pages*10;");
        best("up to just what pages tells", 0, 4, 40, 60, 2316);
        Check.order(x, 1, "pages daily 9;price 99-pages*10;");
        // 2 at 79: 21 * 79 = 1659 + 10 - 24; 4 at 59: 41 * 59 = 2419 + 41 - 98 = 2362; 6 at 39: 61 * 39 = 2379 + 91 - 218;
        best("more pages", 0, 4, 59, 41, 2362);
        Check.order(x, 1, "pages daily 3;price 99-pages*10;");
        best("up to what pages tells", 0, 2, 79, 21, 1645);
        Check.order(x, 1, "price 0-5;");
        best("1 at least", 0, 2, 1, 99, 99 + 49 - 118);
        Check.order(x, 1, "price 500;");
        best("100 at most", 0, 2, 100, 0, 0);
        Check.order(x, 1, "price 70;");
        best("a price above 60", 0, 2, 70, 30, 2100 + 15 - 36);
        Check.order(x, 1, "price month*20+stock-1900+used;");
        best("by the month and the stock", 0, 2, 100, 0, 0);
    }

    private static void twoPagesAlone() {
        board();
        x.reel(2000, 0);
        x.months(1);
        Check.order(x, 1, "pages daily 2;");
        best("two pages alone", 0, 2, 50, 50, 2465);
        Check.order(x, 1, "pages daily 3;");
        best("two pages alone", 0, 2, 50, 50, 2465);
    }

    private static void copiesMayBeAboveAThousand() {
        x = new PaperBoard();
        for (int i = 0; i < 5; i++) x.ward(1000);
        x.paper(0, 50, 0, 2, 1);
        for (int i = 0; i < 5; i++) x.loyal(i, 0, 100);
        for (int i = 0; i < 3; i++) x.reel(2000, 0);
        x.months(1);
        // 5 * 10 * (100 - price): 2500 at 50: 125000 + 1250 - 3000
        best("copies", 0, 2, 50, 2500, 123250);
    }

    public static void main(String[] args) {
        wrongCalls();
        withoutStock();
        withStock();
        stockAndRight();
        aRightCounts();
        pagesAndPrices();
        twoPagesAlone();
        copiesMayBeAboveAThousand();
        Check.end("BestTest");
    }
}
