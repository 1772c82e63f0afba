/** Promise 19: how a month goes by. */
public final class MonthsTest {
    private static PaperBoard x;

    private static void told(String call, int paper, int what, int due) {
        Check.is(call + " told(" + paper + ", " + what + ")", x.told(paper, what), due);
    }

    private static void months() {
        x = new PaperBoard();
        Check.is("months(0)", x.months(0), 0);
        Check.noNumber("months(-1)", () -> x.months(-1));
        Check.noNumber("months(25)", () -> x.months(25));
        for (int i = 1; i <= 24; i++) Check.is("months(24)", x.months(24), i * 24);
        Check.noState("months(25th 24)", () -> x.months(24) + x.months(24));
        Check.is("month", x.count(0), 600);
        Check.noState("months(1)", () -> x.months(1));
        Check.noNumber("months(25)", () -> x.months(25));
        Check.is("months(0)", x.months(0), 600);
        x = new PaperBoard();
        for (int i = 0; i < 24; i++) x.months(24);
        x.months(20);
        Check.noState("months(5) at 596", () -> x.months(5));
        Check.is("nothing went by", x.count(0), 596);
        Check.is("months(4)", x.months(4), 600);
    }

    private static void theQueue() {
        x = new PaperBoard();
        for (int i = 0; i < 5; i++) x.paper(0, 1, 0, 2, 1);
        Check.order(x, 0, "new 2;");
        Check.order(x, 1, "new 0;");
        Check.order(x, 2, "new 9999;");
        x.months(1);
        int[] due = {1, 1, 0, 0, 0};
        for (int i = 0; i < 5; i++) told("the first two", i, 9, due[i]);
        Check.is("admitted", x.count(2), 2);
        Check.is("queued", x.count(3), 3);
        x.months(1);
        told("new 0", 2, 9, 0);
        x.merge(0, 1);
        Check.is("admitted", x.count(2), 1);
        x.months(1);
        for (int i = 2; i < 5; i++) told("all", i, 9, 1);
        told("one that is gone stays so", 1, 9, 2);
    }

    /** The order that is in force in each of some months is that month's own. */
    private static void eachMonthItsOrder() {
        x = new PaperBoard();
        x.paper(0, 1, 100, 10, 1);
        for (int i = 0; i < 3; i++) x.reel(2000, 0);
        Check.order(x, 0, "waste 100;");
        Check.order(x, 2, "waste 50;");
        x.months(3);
        // 300 are used each month; a twentieth is 15: all, all, 7 of them come back
        told("stock", 0, 7, 6000 - 900 + 15 + 15 + 7);
    }

    private static void rights() {
        x = new PaperBoard();
        for (int i = 0; i < 3; i++) x.paper(0, 100, 0, 2, 1);
        x.reel(100, 0);
        x.reel(50, 0);
        x.reel(60, 0);
        x.reel(90, 0);
        x.months(1);
        // 300: each 100. Reel 0 to paper 0 (0 left), reel 1 to paper 1 (50), reel 2 to paper 2 (40), reel 3 to paper 1.
        int[] where = {0, 1, 2, 1};
        for (int i = 0; i < 4; i++) Check.is("where(" + i + ")", x.where(i), where[i]);
        told("right", 0, 8, 0);
        told("right", 1, 8, -40);
        told("right", 2, 8, 40);
        told("stock", 1, 7, 140);
        x.months(1);
        told("without a pool, right", 2, 8, 40);
        x.reel(1, 500);
        x.months(1);
        Check.is("a reel that dries to nothing", x.where(4), 2);
        told("right", 2, 8, 40);
    }

    private static void aRightOfOne() {
        x = new PaperBoard();
        x.paper(0, 100, 0, 2, 1);
        x.reel(1, 0);
        x.reel(1, 0);
        Check.order(x, 0, "way bids;");
        x.months(1);
        x.bid(0, 1, 1);
        Check.is("a bid for one", x.parted(0, 3), 1);
        x.months(1);
        Check.is("a right of 1", x.where(0), 0);
        Check.is("a right of 0", x.where(1), -1);
    }

    /** Nobody with a right above 0: reels stay. */
    private static void reelsThatStay() {
        x = new PaperBoard();
        x.paper(0, 100, 0, 2, 1);
        x.reel(10, 0);
        x.reel(1000, 0);
        Check.order(x, 0, "way bids;");
        x.months(1);
        Check.is("no bid", x.where(0), -1);
        x.bid(0, 10, 3);
        x.months(1);
        Check.is("bid", x.where(0), 0);
        Check.is("no right is left", x.where(1), -1);
        told("right", 0, 8, 0);
        told("coins", 0, 6, -30);
        x.months(1);
        Check.is("bids are over", x.where(1), -1);
        x.bid(0, 10, 3);
        x.months(1);
        Check.is("bid", x.where(1), 0);
        told("right", 0, 8, -990);
        told("coins", 0, 6, -60);
        x.reel(700, 0);
        x.bid(0, 690, 1);
        x.months(1);
        told("what it has is paid, even if no reel comes", 0, 6, -750);
        told("right", 0, 8, -300);
        Check.is("a right below 0", x.where(2), -1);
        x.bid(0, 300, 1);
        x.months(1);
        told("right of just 0", 0, 8, 0);
        Check.is("a right of 0", x.where(2), -1);
        x.bid(0, 1000, 2);
        x.months(1);
        told("as far as the pool goes", 0, 6, -1050 - 1400);
        Check.is("a right above 0", x.where(2), 0);
    }

    private static void bidsAreOverByAnyWay() {
        x = new PaperBoard();
        x.paper(0, 100, 0, 2, 1);
        x.months(1);
        x.bid(0, 10, 3);
        x.reel(10, 0);
        x.months(1);
        told("nothing is paid by another way", 0, 6, 0);
        x.reel(10, 0);
        Check.is("bids are over", x.parted(0, 3), 0);
    }

    private static void printing() {
        x = new PaperBoard();
        x.ward(1000);
        x.paper(0, 100, 50, 7, 20);
        x.loyal(0, 0, 4);
        x.reel(200, 0);
        // 50 hundreds take 105; DEMAND at 20 is 1000*4*80/10000 = 32
        x.months(1);
        told("used", 0, 10, 105);
        told("stock", 0, 7, 95);
        told("coins", 0, 6, 640);
        // 95: 45 hundreds take 94.5, 46 take 96.6
        x.months(1);
        told("used", 0, 10, 94);
        told("stock", 0, 7, 1);
        told("coins", 0, 6, 1280);
        x.set(0, 1, 2);
        // 1: 3 hundreds take 1.8, 4 take 2.4
        x.months(1);
        told("used", 0, 10, 1);
        told("stock", 0, 7, 0);
        told("coins", 0, 6, 1340);
        // 0: 1 hundred takes 0.6
        x.months(1);
        told("used", 0, 10, 0);
        told("coins", 0, 6, 1360);
        x.set(0, 1, 4);
        x.months(1);
        told("used", 0, 10, 0);
        told("coins of nothing printed", 0, 6, 1360);
    }

    private static void waste() {
        x = new PaperBoard();
        x.paper(0, 100, 100, 9, 20);
        x.reel(2000, 0);
        Check.order(x, 0, "waste 99;");
        x.months(1);
        // 270 are used; a twentieth is 13; 12.87 of them
        told("stock", 0, 7, 2000 - 270 + 12);
        x.set(0, 0, 10);
        x.set(0, 1, 6);
        x.months(1);
        // 18 are used: no twentieth
        told("stock", 0, 7, 1742 - 18);
    }

    /** Who waits does nothing, nor who is gone. */
    private static void onlyWhoIsAdmitted() {
        x = new PaperBoard();
        x.ward(1000);
        x.paper(0, 0, 10, 2, 1);
        x.paper(0, 100, 10, 2, 1);
        x.loyal(0, 0, 100);
        x.loyal(0, 1, 100);
        Check.order(x, 0, "new 1;");
        Check.order(x, 1, "new 0;");
        x.reel(500, 0);
        x.months(3);
        told("coins of one that waits", 1, 6, 0);
        told("right of one that waits", 1, 8, 0);
        Check.is("all weights are 0", x.where(0), -1);
        // Without stock one hundred is printed of two pages, as its paper is cut to nothing.
        told("coins", 0, 6, 3);
    }

    public static void main(String[] args) {
        months();
        theQueue();
        eachMonthItsOrder();
        rights();
        aRightOfOne();
        reelsThatStay();
        bidsAreOverByAnyWay();
        printing();
        waste();
        onlyWhoIsAdmitted();
        Check.end("MonthsTest");
    }
}
