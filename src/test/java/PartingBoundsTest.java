import java.util.Arrays;

/** The boundaries that the document names for how a pool is parted. */
public final class PartingBoundsTest {
    private static PaperBoard x;

    /** What each paper would have by this way. */
    private static void parted(String call, int way, int... due) {
        for (int p = 0; p < due.length; p++) Check.is(call + ": parted(" + p + ", " + way + ")", x.parted(p, way), due[p]);
    }

    private static int[] twelve(int each) {
        int[] all = new int[12];
        Arrays.fill(all, each);
        return all;
    }

    /** So many of twelve, the first ones, have one more. */
    private static int[] twelve(int each, int more) {
        int[] all = twelve(each);
        for (int i = 0; i < more; i++) all[i]++;
        return all;
    }

    private static void bid(int paper, int kilograms, int coins) {
        Check.is("bid", x.bid(paper, kilograms, coins), 1);
    }

    private static void pools() {
        Check.words("a POOL (all DRY of REELS in the STORE, in kilograms)", () -> {
            x = Boards.admitted(1, 1);
            Check.is("no reels", x.count(5), 0);
            for (int way = -1; way <= 3; way++) parted("no reels", way, 0, 0);
            x.reel(1, 500);
            Check.is("a reel that is dried to nothing", x.count(5), 0);
            for (int way = -1; way <= 3; way++) parted("no kilogram", way, 0, 0);
            x.reel(1, 0);
            Check.is("one kilogram", x.count(5), 1);
            parted("one kilogram", 2, 1, 0);
            x.steal(1);
            parted("the one kilogram is stolen", 2, 0, 0);
            x.find(1);
            parted("and found", 2, 1, 0);
            x.months(1);
            Check.is("no reel is in the store", x.count(5), 0);
            parted("no reel is in the store", 2, 0, 0);
        });
        Check.words("a POOL (all DRY of REELS in the STORE, in kilograms)", () -> {
            x = Boards.admitted(twelve(100000));
            Boards.reels(x, 160000);
            Check.is("the greatest of all", x.count(5), 160000);
            parted("among twelve by base", 0, twelve(13333, 4));
            parted("among twelve alike", 2, twelve(13333, 4));
        });
    }

    private static void bids() {
        Check.words("the greatest first, then by number: each has what it asks, as far as the POOL goes", () -> {
            x = Boards.admitted(twelve(1));
            Boards.reels(x, 1150);
            parted("nobody bids", 3, twelve(0));
            for (int i = 0; i < 12; i++) bid(i, 100, 7);
            int[] byNumber = {100, 100, 100, 100, 100, 100, 100, 100, 100, 100, 100, 50};
            parted("alike bids, by number", 3, byNumber);
            for (int i = 0; i < 12; i++) bid(i, 100, i);
            int[] greatest = {50, 100, 100, 100, 100, 100, 100, 100, 100, 100, 100, 100};
            parted("the greatest first, that of no coins at the end", 3, greatest);
            bid(11, 1150, 100);
            int[] all = twelve(0);
            all[11] = 1150;
            parted("just the pool", 3, all);
            bid(11, 1149, 100);
            all[11] = 1149;
            all[10] = 1;
            parted("all but one", 3, all);
            bid(11, 1151, 100);
            all[11] = 1150;
            all[10] = 0;
            parted("more than the pool", 3, all);
            bid(11, 100000, 100);
            parted("far more than the pool", 3, all);
        });
        Check.words("those that bid", () -> {
            x = Boards.admitted(1, 1);
            Boards.reels(x, 100);
            bid(1, 1, 0);
            parted("one bids the least", 3, 0, 1);
            Check.is("of one that isn't admitted", x.paper(0, 1, 0, 2, 1) + x.parted(2, 3), 2);
            Check.order(x, 1, "way bids;least 50;");
            parted("by bids there is no least", -1, 0, 1);
            x.bid(0, 100, 1);
            parted("by bids there is no least", -1, 100, 0);
            x.bid(0, 99, 1);
            parted("by bids there is no least", -1, 99, 1);
            x.bid(0, 1, 0);
            Check.is("a bid of one that isn't admitted", x.bid(2, 5, 5), -1);
            parted("that bid is none", 3, 1, 1, 0);
        });
        Check.words("A bid (another one, if there was one): 1; -1: it is not ADMITTED.", () -> {
            x = Boards.admitted(1, 1, 1);
            Boards.reels(x, 100);
            bid(0, 60, 5);
            bid(1, 60, 4);
            bid(0, 50, 3);
            parted("the second bid alone", 3, 40, 60, 0);
            x.merge(1, 2);
            x.paper(0, 1, 0, 2, 1);
            Check.is("of one that is gone", x.bid(2, 9, 9), -1);
            Check.is("of one in the queue", x.bid(3, 9, 9), -1);
            parted("neither counts", 3, 40, 60, 0, 0);
        });
    }

    private static void least() {
        Check.words("Else each has least first, as far as the POOL goes", () -> {
            x = Boards.admitted(1, 0, 0);
            Boards.reels(x, 30);
            Check.order(x, 1, "least 0;");
            parted("none", -1, 30, 0, 0);
            Check.order(x, 1, "least 1;");
            parted("one", -1, 28, 1, 1);
            Check.order(x, 1, "least 10;");
            parted("just the pool", -1, 10, 10, 10);
            Check.order(x, 1, "least 11;");
            parted("one too many", -1, 11, 11, 8);
            Check.order(x, 1, "least 9;");
            parted("three less", -1, 12, 9, 9);
            Check.order(x, 1, "least 30;");
            parted("all", -1, 30, 0, 0);
            Check.order(x, 1, "least 9999;");
            parted("more than all", -1, 30, 0, 0);
            parted("alike too", 2, 30, 0, 0);
            x.steal(0);
            parted("of no pool", -1, 0, 0, 0);
        });
        Check.words("Else each has least first, as far as the POOL goes", () -> {
            x = Boards.admitted(twelve(1));
            Boards.reels(x, 12);
            Check.order(x, 1, "least 1;");
            parted("each of twelve", -1, twelve(1));
            x.reel(11, 0);
            parted("each of twelve, and eleven are over", -1, twelve(1, 11));
        });
    }

    private static void weights() {
        Check.words("the VALUE of part (0 to 1,000,000: less is 0, more 1,000,000)", () -> {
            x = Boards.admitted(0, 1);
            Boards.reels(x, 1000);
            Check.order(x, 1, "part if(base=0,0-1,1);");
            parted("-1 is 0", 0, 0, 1000);
            Check.order(x, 1, "part if(base=0,0-4096*4096*128,1);");
            parted("the least is 0", 0, 0, 1000);
            Check.order(x, 1, "part if(base=0,1000*1000,1000*1000+1);");
            parted("1,000,001 is 1,000,000", 0, 500, 500);
            Check.order(x, 1, "part if(base=0,1000*1000*3,1000*1000);");
            parted("3,000,000 is 1,000,000", 0, 500, 500);
            Check.order(x, 1, "part if(base=0,4096*4096*128-1,1000*1000);");
            parted("the greatest is 1,000,000", 0, 500, 500);
            Check.order(x, 1, "part if(base=0,0,4096*4096*128-1);");
            parted("0 is 0", 0, 0, 1000);
        });
        Check.words("points: POINTS; alike: 1", () -> {
            x = Boards.admitted(1, 1, 1);
            Boards.reels(x, 1001);
            x.set(0, 3, 1000);
            x.set(1, 3, 1);
            parted("points of 1,000, 1 and 0", 1, 1000, 1, 0);
            parted("alike", 2, 334, 334, 333);
        });
        Check.words("the remainder times the WEIGHT, by all WEIGHTS, cut", () -> {
            // 160,000 times 1,000,000 is beyond 32 bits.
            x = Boards.admitted(100000, 1, 0);
            Boards.reels(x, 160000);
            Check.order(x, 1, "part base*10;rest keep;");
            parted("160,000 * 1,000,000 by 1,000,010", 0, 159998, 1, 0);
            Check.order(x, 1, "part if(base=0,0,1000*1000);rest keep;");
            parted("halves", 0, 80000, 80000, 0);
            Check.order(x, 1, "part if(base=0,1,1000*1000);rest keep;");
            parted("a share below 1 is cut", 0, 79999, 79999, 0);
        });
    }

    private static void whatIsOver() {
        Check.words("a kilogram each, to those with the greatest rests of these divisions, then by number", () -> {
            x = Boards.admitted(twelve(5));
            Boards.reels(x, 11);
            parted("eleven of twelve alike", 2, twelve(0, 11));
            x.reel(1, 0);
            parted("nothing is over", 2, twelve(1));
            x.reel(1, 0);
            parted("one is over", 2, twelve(1, 1));
            x.reel(10, 0);
            parted("eleven are over", 2, twelve(1, 11));
            for (int i = 0; i < 12; i++) x.set(i, 3, i + 1);
            // 23 times 1 to 12, by 78: rests 23 46 69 14 37 60 5 28 51 74 19 42, six are over.
            int[] due = {0, 1, 1, 1, 1, 2, 2, 2, 3, 3, 3, 4};
            parted("the greatest rests of twelve", 1, due);
        });
        Check.words("a kilogram each, to those with the greatest rests of these divisions, then by number", () -> {
            x = Boards.admitted(1, 2, 1, 2);
            Boards.reels(x, 5);
            // 5/6, 10/6, 5/6, 10/6: rests 5, 4, 5, 4; three are over.
            parted("of rests alike the first", 0, 1, 2, 1, 1);
            x.reel(3, 0);
            // 8/6, 16/6, 8/6, 16/6: rests 2, 4, 2, 4; two are over.
            parted("the greatest rests, behind the first", 0, 1, 3, 1, 3);
        });
        Check.words("(rest most; not to those of WEIGHT 0)", () -> {
            x = Boards.admitted(0, 3, 0, 3, 0);
            Boards.reels(x, 7);
            parted("one is over", 0, 0, 4, 0, 3, 0);
            x.reel(1, 0);
            parted("nothing is over", 0, 0, 4, 0, 4, 0);
        });
        Check.words("or stays (rest keep)", () -> {
            x = Boards.admitted(1, 1, 1);
            Boards.reels(x, 5);
            Check.order(x, 1, "rest keep;");
            for (int way = 0; way <= 2; way += 2) parted("two stay", way, 1, 1, 1);
            x.months(1);
            Check.is("right", x.told(0, 8) + x.told(1, 8) + x.told(2, 8), 3 - 5);
            x.reel(2, 0);
            parted("all stay", 2, 0, 0, 0);
        });
        Check.words("If all WEIGHTS are 0, all that remains stays.", () -> {
            x = Boards.admitted(0, 0);
            Boards.reels(x, 7);
            parted("by base", 0, 0, 0);
            parted("by points", 1, 0, 0);
            Check.order(x, 1, "least 3;");
            parted("least, and one stays", 0, 3, 3);
            parted("least, and one stays", 1, 3, 3);
            x.months(1);
            Check.is("right", x.told(0, 8) + x.told(1, 8), 6 - 7);
            x = Boards.admitted(0, 0);
            Boards.reels(x, 7);
            x.months(1);
            Check.is("the reel stays", x.where(0), -1);
            Check.is("no right", x.told(0, 8) + x.told(1, 8), 0);
        });
    }

    private static void whatWouldBeParted() {
        Check.words("What a PAPER would have of the POOL now, PARTED by a way (0 to 3; NONE: the one that is told)", () -> {
            x = Boards.admitted(3, 1);
            Boards.reels(x, 8);
            x.set(0, 3, 1);
            bid(1, 5, 1);
            int[][] due = {{6, 2}, {8, 0}, {4, 4}, {0, 5}};
            String[] ways = {"base", "points", "alike", "bids"};
            for (int way = 0; way <= 3; way++) {
                parted("way " + way, way, due[way]);
                Check.order(x, 1, "way " + ways[way] + ";");
                parted("way " + ways[way], -1, due[way]);
                for (int other = 0; other <= 3; other++) parted("another way than is told", other, due[other]);
            }
            Check.bounded("parted by a way", -1, 3, v -> x.parted(0, v));
            Check.is("nothing is parted", x.told(0, 8) + x.count(5), 8);
        });
        Check.words("0: it is not ADMITTED", () -> {
            x = Boards.admitted(1, 1);
            Check.order(x, 1, "least 5;");
            Boards.reels(x, 100);
            bid(1, 50, 1);
            Boards.plain(x, 9);
            x.merge(0, 1);
            for (int way = -1; way <= 3; way++) {
                Check.is("of one that is gone", x.parted(1, way), 0);
                Check.is("of one in the queue", x.parted(2, way), 0);
            }
            Check.bounded("parted of one in the queue, by a way", -1, 3, v -> x.parted(2, v));
        });
    }

    public static void main(String[] args) {
        pools();
        bids();
        least();
        weights();
        whatIsOver();
        whatWouldBeParted();
        Check.end("PartingBoundsTest");
    }
}
