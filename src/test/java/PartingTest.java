/** Promises 17 and 18: bids, and how the pool is parted by each way. */
public final class PartingTest {
    private static PaperBoard x;

    /** Papers that are admitted, with these bases, copies 0; then one that waits in the queue; reels of a pool. */
    private static void board(int pool, int... bases) {
        x = new PaperBoard();
        for (int base : bases) x.paper(0, base, 0, 2, 1);
        x.months(1);
        Check.order(x, 0, "new 0;");
        x.paper(0, 5000, 10, 2, 1);
        for (int left = pool; left > 0; left -= 2000) x.reel(Math.min(left, 2000), 0);
        Check.is("pool", x.count(5), pool);
    }

    private static void parted(String call, int way, int... due) {
        for (int p = 0; p < due.length; p++) Check.is(call + " parted(" + p + ", " + way + ")", x.parted(p, way), due[p]);
    }

    private static void wrongCalls() {
        board(10, 1, 2);
        Check.noNumber("way 4", () -> x.parted(0, 4));
        Check.noNumber("way -2", () -> x.parted(0, -2));
        Check.noNumber("way 4 of one that waits", () -> x.parted(2, 4));
        Check.noIndex("paper 3", () -> x.parted(3, 9));
        Check.noIndex("paper -1", () -> x.parted(-1, 0));
        Check.noNumber("0 kilograms", () -> x.bid(0, 0, 1));
        Check.noNumber("100001 kilograms", () -> x.bid(0, 100001, 1));
        Check.noNumber("-1 coins", () -> x.bid(0, 1, -1));
        Check.noNumber("101 coins", () -> x.bid(0, 1, 101));
        Check.noIndex("paper 3", () -> x.bid(3, 0, 1));
        Check.is("a bid of one that waits", x.bid(2, 1, 1), -1);
        Check.is("the least bid", x.bid(0, 1, 0), 1);
        Check.is("the greatest bid", x.bid(0, 100000, 100), 1);
    }

    private static void byBase() {
        board(100, 1, 1, 1);
        parted("alike rests go by number", 0, 34, 33, 33, 0);
        board(101, 1, 1, 1);
        parted("two are over", 0, 34, 34, 33, 0);
        // 100 * 3/7, 2/7, 2/7: 42 6/7, 28 4/7, 28 4/7
        board(100, 3, 2, 2);
        parted("the greatest rests first", 0, 43, 29, 28, 0);
        // 10 * 1/7, 5/7, 1/7: 1 3/7, 7 1/7, 1 3/7
        board(10, 1, 5, 1);
        parted("the greatest rest of all first", 0, 2, 7, 1, 0);
        board(7, 0, 4, 0);
        parted("weight 0", 0, 0, 7, 0, 0);
        board(7, 0, 0, 0);
        parted("all weights 0", 0, 0, 0, 0, 0);
        board(0, 5, 6);
        parted("no pool", 0, 0, 0, 0);
        board(160000, 100000, 1, 1);
        Check.order(x, 0, "new 0;part base*10;");
        // 159996.80, and 1.59 of each of the small ones
        parted("a great pool", -1, 159997, 2, 1, 0);
    }

    private static void theRestIsKept() {
        board(101, 1, 1, 1);
        Check.order(x, 0, "new 0;rest keep;");
        parted("keep", 0, 33, 33, 33, 0);
        parted("keep", 2, 33, 33, 33, 0);
        Check.order(x, 0, "new 0;rest keep;rest most;");
        parted("most", 2, 34, 34, 33, 0);
    }

    private static void byPointsAndAlike() {
        board(100, 1, 2, 3);
        parted("no points", 1, 0, 0, 0, 0);
        x.set(0, 3, 1000);
        x.set(2, 3, 250);
        x.set(3, 3, 999);
        parted("points", 1, 80, 0, 20, 0);
        parted("alike", 2, 34, 33, 33, 0);
        parted("base", 0, 17, 33, 50, 0);
        Check.order(x, 0, "new 0;way points;");
        parted("the way that is told", -1, 80, 0, 20, 0);
        Check.order(x, 0, "new 0;way alike;");
        parted("the way that is told", -1, 34, 33, 33, 0);
    }

    private static void leastFirst() {
        board(100, 1, 0, 3);
        Check.order(x, 0, "new 0;least 20;");
        parted("least", 0, 30, 20, 50, 0);
        parted("least", 1, 20, 20, 20, 0);
        Check.order(x, 0, "new 0;least 45;");
        parted("as far as the pool goes", 0, 45, 45, 10, 0);
        Check.order(x, 0, "new 0;least 9999;");
        parted("the first has all", 2, 100, 0, 0, 0);
        Check.order(x, 0, "new 0;least 9999;way bids;");
        parted("by bids there is no least", -1, 0, 0, 0, 0);
    }

    private static void theValueOfPartIsBounded() {
        board(100, 1, 0, 3);
        Check.order(x, 0, "new 0;part if(base=0,0-5,if(base=1,9999*9999,1000*1000));");
        parted("within 0 and a million", 0, 50, 0, 50, 0);
    }

    private static void byBids() {
        board(100, 1, 2, 3);
        parted("no bids", 3, 0, 0, 0, 0);
        x.bid(0, 30, 5);
        x.bid(1, 60, 9);
        x.bid(2, 50, 5);
        parted("the greatest first, then by number", 3, 30, 60, 10, 0);
        x.bid(2, 50, 6);
        parted("another one", 3, 0, 60, 40, 0);
        x.bid(1, 10, 0);
        parted("another one", 3, 30, 10, 50, 0);
        x.bid(2, 100000, 100);
        parted("all", 3, 0, 0, 100, 0);
        Check.order(x, 0, "new 0;way bids;");
        parted("the way that is told", -1, 0, 0, 100, 0);
        parted("bids count for no other way", 2, 34, 33, 33, 0);
    }

    private static void onlyWhoIsAdmitted() {
        board(100, 1, 2, 3);
        x.bid(0, 10, 1);
        x.bid(1, 10, 2);
        x.merge(0, 1);
        parted("by base", 0, 50, 0, 50, 0);
        parted("alike", 2, 50, 0, 50, 0);
        parted("by bids", 3, 10, 0, 0, 0);
    }

    public static void main(String[] args) {
        wrongCalls();
        byBase();
        theRestIsKept();
        byPointsAndAlike();
        leastFirst();
        theValueOfPartIsBounded();
        byBids();
        onlyWhoIsAdmitted();
        Check.end("PartingTest");
    }
}
