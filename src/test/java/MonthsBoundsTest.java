/** The boundaries that the document names for how a month goes by. */
public final class MonthsBoundsTest {
    private static PaperBoard x;

    private static void told(String call, int paper, int what, int due) {
        Check.is(call + ": told(" + paper + ", " + what + ")", x.told(paper, what), due);
    }

    private static void states(String call, int... due) {
        for (int p = 0; p < due.length; p++) told(call, p, 9, due[p]);
    }

    private static void howManyMonths() {
        Check.words("So many MONTHS go by: the MONTH. IllegalArgumentException: they are not 0 to 24; IllegalStateException: it would be above 600.", () -> {
            Check.bounded("months", 0, 24, v -> new PaperBoard().months(v));
            x = new PaperBoard();
            Check.is("none", x.months(0), 0);
            Check.is("one", x.months(1), 1);
            Check.is("24", x.months(24), 25);
            for (int i = 0; i < 23; i++) x.months(24);
            Check.is("577", x.count(0), 577);
            Check.noState("24 of 23", () -> x.months(24));
            Check.is("none went by", x.count(0), 577);
            Check.is("23 of 23", x.months(23), 600);
            Check.noState("one of none", () -> x.months(1));
            Check.noState("24 of none", () -> x.months(24));
            Check.is("none of none", x.months(0), 600);
            for (int v : new int[] {-1, 25, Integer.MIN_VALUE, Integer.MAX_VALUE}) Check.noNumber("months(" + v + ")", () -> x.months(v));
        });
    }

    private static void theQueue() {
        Check.words("of those in the QUEUE the first so many as new tells are ADMITTED", () -> {
            int[] fresh = {0, 1, 2, 3, 4, 9999};
            int[][] due = {{0, 0, 0}, {1, 0, 0}, {1, 1, 0}, {1, 1, 1}, {1, 1, 1}, {1, 1, 1}};
            for (int i = 0; i < fresh.length; i++) {
                x = new PaperBoard();
                for (int p = 0; p < 3; p++) Boards.plain(x, 1);
                Check.order(x, 0, "new " + fresh[i] + ";");
                x.months(1);
                states("new " + fresh[i], due[i]);
            }
            x = new PaperBoard();
            Check.order(x, 0, "new 1;");
            Check.is("of an empty queue", x.months(1), 1);
            for (int p = 0; p < 12; p++) Boards.plain(x, 1);
            x.months(11);
            states("one a month", 1, 1, 1, 1, 1, 1, 1, 1, 1, 1, 1, 0);
            x.merge(0, 10);
            x.months(1);
            states("one a month", 1, 1, 1, 1, 1, 1, 1, 1, 1, 1, 2, 1);
            x = new PaperBoard();
            for (int p = 0; p < 12; p++) Boards.plain(x, 1);
            x.months(1);
            Check.is("without an order all twelve", x.count(2), 12);
        });
    }

    private static void rightsAndBids() {
        Check.words("who bid pays that many COINS for each kilogram (if PARTED by bids); bids are over then", () -> {
            x = Boards.admitted(1, 1, 1);
            Check.order(x, 1, "way bids;");
            Boards.reels(x, 100);
            x.bid(0, 60, 100);
            x.bid(1, 60, 0);
            x.bid(2, 60, 0);
            x.months(1);
            told("60 of 60", 0, 6, -6000);
            told("40 of 60 for nothing", 1, 6, 0);
            told("40 of 60", 1, 8, 40);
            told("none of 60", 2, 6, 0);
            told("none of 60", 2, 8, 0);
            Boards.reels(x, 10);
            for (int p = 0; p < 3; p++) Check.is("bids are over", x.parted(p, 3), 0);
            x.months(1);
            told("bids are over", 0, 6, -6000);
        });
        Check.words("who bid pays that many COINS for each kilogram (if PARTED by bids); bids are over then", () -> {
            x = Boards.admitted(1, 1);
            x.bid(0, 10, 5);
            Boards.reels(x, 10);
            x.months(1);
            told("parted another way", 0, 6, 0);
            Boards.reels(x, 10);
            Check.is("bids are over all the same", x.parted(0, 3), 0);
            x.bid(0, 10, 5);
            x.months(0);
            Check.is("no month went by", x.parted(0, 3), 10);
        });
    }

    private static void reels() {
        Check.words("as long as there is one with RIGHT above 0", () -> {
            x = Boards.admitted(1);
            Check.order(x, 1, "way bids;");
            for (int i = 0; i < 3; i++) x.reel(1, 0);
            x.months(1);
            Check.is("a right of 0", x.where(0), -1);
            x.bid(0, 1, 0);
            x.months(1);
            Check.is("a right of 1", x.where(0), 0);
            Check.is("a right of 0 again", x.where(1), -1);
            told("right", 0, 8, 0);
            x.reel(2000, 0);
            x.steal(1);
            x.steal(2);
            x.bid(0, 1, 0);
            x.months(1);
            told("a right of 1, and a reel of 2,000", 0, 8, -1999);
            x.reel(1, 0);
            x.bid(0, 1, 0);
            x.months(1);
            told("a right below 0", 0, 8, -1998);
            Check.is("a right below 0", x.where(4), -1);
        });
        Check.words("the greatest RIGHT (of alike ones the least number)", () -> {
            x = Boards.admitted(1, 1, 1);
            for (int i = 0; i < 6; i++) x.reel(10, 0);
            x.months(1);
            // Each 20: by number round and round.
            int[] due = {0, 1, 2, 0, 1, 2};
            for (int i = 0; i < 6; i++) Check.is("where(" + i + ")", x.where(i), due[i]);
            x.reel(1, 500);
            x.reel(7, 0);
            x.reel(1, 500);
            Check.order(x, 1, "part if(base=1,if(stock=20,1,0),0);");
            x.swap(1, 0, 5);
            x.months(1);
            // The 7 are for papers 2 alone: its stock is 20 as it was.
            for (int i = 6; i < 8; i++) Check.is("where(" + i + ")", x.where(i), 2);
            Check.is("no right is left for a reel of nothing", x.where(8), -1);
        });
    }

    /** A paper with this stock prints one month for all readers there are. */
    private static void prints(int stock, int copies, int pages, int used, int sold) {
        String call = stock + " kilograms, " + copies + " of " + pages;
        x = new PaperBoard();
        Boards.plain(x, 1);
        if (stock > 0) x.reel(stock, 0);
        for (int w = 0; w < 5; w++) Boards.allAreLoyalTo(x, 0);
        Boards.copiesPagesPrice(x, 0, copies, pages, 1);
        x.months(1);
        told(call, 0, 10, used);
        told(call, 0, 7, stock - used);
        told(call, 0, 6, sold);
    }

    private static void printing() {
        Check.words("a run of so many hundreds of COPIES takes COPIES times PAGES times 3, by 10, cut, kilograms", () -> {
            prints(2000, 0, 64, 0, 0);
            prints(2000, 1, 2, 0, 1);
            prints(2000, 1, 3, 0, 1);
            prints(2000, 1, 4, 1, 1);
            prints(2000, 3, 3, 2, 3);
            prints(2000, 10, 2, 6, 10);
            prints(2000, 33, 3, 29, 33);
            prints(2000, 104, 64, 1996, 104);
            prints(2000, 1000, 6, 1800, 1000);
        });
        Check.words("it prints as many as COPIES tells, or the most for which STOCK does", () -> {
            prints(30, 10, 10, 30, 10);
            prints(29, 10, 10, 27, 9);
            prints(31, 10, 10, 30, 10);
            prints(0, 10, 10, 0, 0);
            prints(0, 1000, 64, 0, 0);
            prints(1, 1000, 64, 0, 0);
            prints(18, 1000, 64, 0, 0);
            prints(19, 1000, 64, 19, 1);
            // What is cut is for nothing: 1 of 3 pages takes 0.9, 2 of 2 take 1.2, 3 of 3 take 2.7.
            prints(0, 1000, 3, 0, 1);
            prints(0, 1000, 2, 0, 1);
            prints(0, 1000, 4, 0, 0);
            prints(1, 1000, 2, 1, 3);
            prints(1, 1000, 3, 1, 2);
            prints(2, 1000, 3, 2, 3);
            prints(2, 1000, 11, 0, 0);
            prints(3, 1000, 13, 3, 1);
            prints(2000, 1000, 64, 1996, 104);
            prints(2000, 1000, 7, 1999, 952);
        });
        Check.words("SOLD is the less of what it printed and DEMAND at its PRICE", () -> {
            int[][] due = {{0, 0}, {1, 1}, {9, 9}, {10, 10}, {11, 10}, {50, 10}};
            for (int[] d : due) {
                x = new PaperBoard();
                Boards.plain(x, 1);
                x.reel(2000, 0);
                Boards.allAreLoyalTo(x, 0);
                Boards.copiesPagesPrice(x, 0, d[0], 4, 99);
                x.months(1);
                told(d[0] + " printed, 10 in demand", 0, 6, 99 * d[1]);
                told(d[0] + " printed", 0, 10, d[0] * 4 * 3 / 10);
                x.set(0, 2, 100);
                x.months(1);
                told("none in demand at 100", 0, 6, 99 * d[1]);
            }
        });
        Check.words("Each that is ADMITTED prints", () -> {
            x = new PaperBoard();
            for (int p = 0; p < 3; p++) x.paper(0, 1, 10, 2, 1);
            Boards.allAreLoyalTo(x, 0);
            Boards.allAreLoyalTo(x, 2);
            Check.order(x, 0, "new 2;");
            Check.order(x, 1, "new 0;");
            x.months(1);
            x.merge(1, 0);
            x.months(1);
            told("one that is gone sells no more", 0, 6, 0);
            told("the one it went to", 1, 6, 1 + 1);
            told("one in the queue sells nothing", 2, 6, 0);
        });
    }

    /** What is paid, and broken, by one paper in one month. */
    private static void breaks(String order, int copies, int pages, int price, int paid, int which) {
        x = new PaperBoard();
        x.paper(0, 1, copies, pages, price);
        x.reel(2000, 0);
        Check.order(x, 0, order);
        x.months(1);
        String call = copies + " of " + pages + " at " + price + " by " + order;
        told(call, 0, 6, -paid);
        Check.is(call + ": breach(0, 0)", x.breach(0, 0), Integer.bitCount(which));
        Check.is(call + ": breach(0, 1)", x.breach(0, 1), which == 0 ? -1 : 0);
        Check.is(call + ": breach(0, 2)", x.breach(0, 2), which);
        Check.is(call + ": breach(0, 3)", x.breach(0, 3), which == 0 ? -1 : 0);
    }

    private static void breaches() {
        Check.words("if its PAGES are above what pages tells for its KIND: fine for each page above is paid", () -> {
            breaks("pages daily 20;fine 7;", 1, 19, 1, 0, 0);
            breaks("pages daily 20;fine 7;", 1, 20, 1, 0, 0);
            breaks("pages daily 20;fine 7;", 1, 21, 1, 7, 1);
            breaks("pages daily 20;fine 7;", 1, 22, 1, 14, 1);
            breaks("pages weekly 2;pages party 2;", 1, 64, 1, 0, 0);
            breaks("fine 9999;", 1, 64, 1, 0, 0);
            breaks("pages daily 2;fine 0;", 1, 64, 1, 0, 1);
            breaks("pages daily 2;fine 9999;", 1, 64, 1, 62 * 9999, 1);
            breaks("pages daily 2;", 1, 3, 1, 10, 1);
        });
        Check.words("if there is a price and its PRICE is not the VALUE of it (1 to 100: less is 1, more 100): fine is paid once", () -> {
            breaks("fine 7;", 1, 2, 50, 0, 0);
            breaks("price 50;fine 7;", 1, 2, 50, 0, 0);
            breaks("price 50;fine 7;", 1, 2, 49, 7, 2);
            breaks("price 50;fine 7;", 1, 2, 51, 7, 2);
            breaks("price 50;fine 7;", 1, 2, 100, 7, 2);
            breaks("price 0;fine 7;", 1, 2, 1, 0, 0);
            breaks("price 0-9999;fine 7;", 1, 2, 1, 0, 0);
            breaks("price 0;fine 7;", 1, 2, 2, 7, 2);
            breaks("price 100;fine 7;", 1, 2, 100, 0, 0);
            breaks("price 101;fine 7;", 1, 2, 100, 0, 0);
            breaks("price 9999*9999;fine 7;", 1, 2, 100, 0, 0);
            breaks("price 101;fine 7;", 1, 2, 99, 7, 2);
            breaks("price price;fine 7;", 1, 2, 77, 0, 0);
            breaks("pages daily 2;price 2;fine 7;", 1, 4, 1, 21, 3);
        });
        Check.words("Only who printed something.", () -> {
            breaks("pages daily 2;price 2;", 0, 64, 1, 0, 0);
            breaks("pages daily 2;price 2;", 1, 64, 1, 630, 3);
            x = new PaperBoard();
            x.paper(0, 1, 1000, 64, 1);
            x.reel(18, 0);
            Check.order(x, 0, "pages daily 2;price 2;");
            x.months(1);
            told("18 kilograms, of 19 for a hundred", 0, 6, 0);
            Check.is("breaches", x.breach(0, 0), 0);
            x.reel(1, 0);
            x.months(1);
            told("19 kilograms", 0, 6, -630);
            Check.is("breaches", x.breach(0, 0), 2);
            Check.is("month", x.breach(0, 1), 1);
        });
    }

    private static void breach(String call, int paper, int... due) {
        for (int w = 0; w < due.length; w++) Check.is(call + ": breach(" + paper + ", " + w + ")", x.breach(paper, w), due[w]);
    }

    private static void breachesTold() {
        Check.words("BREACHES of a PAPER: 0 how many in all (both in one MONTH are two), 1 the MONTH of the latest (NONE), 2 which (1, 2; 3 both; 0 none), 3 the ORDER by which (NONE)", () -> {
            x = new PaperBoard();
            x.paper(0, 1, 1, 3, 50);
            breach("in the queue", 0, 0, -1, 0, -1, -1);
            x.months(1);
            breach("without an order", 0, 0, -1, 0, -1, -1);
            Check.order(x, 1, "pages daily 3;price 50;");
            Check.order(x, 2, "pages daily 2;price 51;");
            Check.order(x, 3, "price 51;pages daily 2;pages daily 3;");
            Check.order(x, 4, "price 51;price 50;pages daily 9;pages daily 2;");
            Check.order(x, 5, "");
            x.months(1);
            breach("as it is told", 0, 0, -1, 0, -1, -1);
            x.months(1);
            breach("both", 0, 2, 2, 3, 1, 0);
            x.months(1);
            breach("the price", 0, 3, 3, 2, 2, 0);
            x.months(1);
            breach("the pages", 0, 4, 4, 1, 3, 3);
            x.months(1);
            breach("none: the latest stays", 0, 4, 4, 1, 3, 3);
        });
        Check.words("4 its CLAUSE (by number in that ORDER, from 0 on; of 1, if both; NONE)", () -> {
            int[][] due = {{1, 1, 11}, {2, 2, 10}, {3, 3, 11}};
            String[] last = {"price 50;pages daily 2;", "price 51;pages daily 3;", "price 51;pages daily 2;"};
            for (int i = 0; i < due.length; i++) {
                x = new PaperBoard();
                x.paper(0, 1, 1, 3, 50);
                for (int k = 0; k < 9; k++) Check.order(x, 0, "");
                Check.order(x, 0, "fine 1;".repeat(10) + last[i]);
                x.months(1);
                breach("of the last clauses of the last order", 0, due[i][0] == 3 ? 2 : 1, 0, due[i][1], 9, due[i][2]);
            }
            x = new PaperBoard();
            for (int kind = 0; kind <= 2; kind++) x.paper(kind, 1, 1, 3, 50);
            Check.order(x, 0, "pages party 2;pages weekly 2;pages daily 2;pages weekly 2;");
            x.months(1);
            breach("of its kind", 0, 1, 0, 1, 0, 2);
            breach("of its kind the last", 1, 1, 0, 1, 0, 3);
            breach("of its kind", 2, 1, 0, 1, 0, 0);
        });
        Check.words("both in one MONTH are two", () -> {
            x = new PaperBoard();
            x.paper(0, 1, 1, 3, 50);
            Check.order(x, 0, "pages daily 2;price 51;fine 9999;");
            for (int i = 0; i < 25; i++) x.months(24);
            breach("of all months", 0, 1200, 599, 3, 0, 0);
            told("of all months", 0, 6, -1200 * 9999);
        });
    }

    private static void comesBack(int waste, int copies, int used, int due) {
        x = new PaperBoard();
        x.paper(0, 1, copies, 10, 1);
        x.reel(2000, 0);
        Check.order(x, 0, "waste " + waste + ";");
        x.months(1);
        told(waste + " hundredths", 0, 10, used);
        told(waste + " hundredths of a twentieth of " + used, 0, 7, 2000 - used + due);
    }

    private static void waste() {
        Check.words("a twentieth, cut, of what was USED; waste hundredths of that, cut, come back to STOCK", () -> {
            comesBack(100, 0, 0, 0);
            comesBack(100, 6, 18, 0);
            comesBack(100, 7, 21, 1);
            comesBack(100, 13, 39, 1);
            comesBack(100, 14, 42, 2);
            comesBack(99, 7, 21, 0);
            comesBack(49, 14, 42, 0);
            comesBack(50, 14, 42, 1);
            comesBack(99, 666, 1998, 98);
            comesBack(1, 666, 1998, 0);
            comesBack(100, 666, 1998, 99);
            comesBack(0, 666, 1998, 0);
            // 39 are 1 twentieth and not 1.95: 60 hundredths of it are none.
            comesBack(60, 13, 39, 0);
        });
    }

    public static void main(String[] args) {
        howManyMonths();
        theQueue();
        rightsAndBids();
        reels();
        printing();
        breaches();
        breachesTold();
        waste();
        Check.end("MonthsBoundsTest");
    }
}
