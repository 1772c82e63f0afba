/** The boundaries that the document names for sources, appeals, what is best, and rows. */
public final class JudgementsBoundsTest {
    private static final int NOTHING = PaperBoard.NOTHING;
    private static PaperBoard x;

    private static void told(String call, int paper, int what, int due) {
        Check.is(call + ": told(" + paper + ", " + what + ")", x.told(paper, what), due);
    }

    // ---- sources

    private static PaperBoard fresh() {
        x = new PaperBoard();
        Boards.plain(x, 1);
        return x;
    }

    private static void borne(String call, int[] spans, int... due) {
        fresh();
        for (int i = 0; i < spans.length; i += 2) Check.is(call + " source", x.source(0, spans[i], spans[i + 1]), i / 2 + 1);
        for (int w = 0; w < 4; w++) Check.is(call + " borne(0, " + w + ")", x.borne(0, w), due[w]);
    }

    private static int[] spans(int... ends) {
        return ends;
    }

    private static void sources() {
        Check.words("SOURCES of a PAPER's BASE, 8 at most: a span, from .. to (0 to 100,000).", () -> {
            fresh();
            for (int i = 1; i <= 8; i++) Check.is("source", x.source(0, i, i), i);
            Check.is("a 9th", x.source(0, 5, 5), -1);
            Check.is("of the first eight", x.borne(0, 2), 1);
            Check.is("of the first eight", x.borne(0, 3), 254);
            Check.bounded("from", 0, 100000, v -> fresh().source(0, v, 100000));
            Check.bounded("to", 0, 100000, v -> fresh().source(0, 0, v));
            borne("the greatest span", spans(0, 100000), 0, 100000, 1, 0);
        });
        Check.words("from, to (from above to, too)", () -> {
            Check.is("from just to", fresh().source(0, 7, 7), 1);
            Check.noNumber("from one above to", () -> x.source(0, 8, 7));
            Check.noNumber("from 1 to 0", () -> x.source(0, 1, 0));
            Check.noNumber("from 100,000 to 99,999", () -> x.source(0, 100000, 99999));
            Check.noNumber("from the greatest to the least of all", () -> x.source(0, Integer.MAX_VALUE, Integer.MIN_VALUE));
            Check.noNumber("from -1 to 0", () -> x.source(0, -1, 0));
            Check.noNumber("from 100,000 to 100,001", () -> x.source(0, 100000, 100001));
            Check.is("none of these counts", x.source(0, 7, 8), 2);
            for (int i = 3; i <= 8; i++) x.source(0, 1, 1);
            Check.noNumber("a 9th that is none such", () -> x.source(0, 1, 0));
            Check.is("a 9th", x.source(0, 0, 1), -1);
        });
        Check.words("BORNE is the first number that lies in the most of them, up to the last one that lies in the same ones; REJECTED are the others.", () -> {
            borne("0 alone", spans(0, 0), 0, 0, 1, 0);
            borne("the last number alone", spans(100000, 100000), 100000, 100000, 1, 0);
            borne("the ends of all", spans(0, 0, 100000, 100000), 0, 0, 1, 2);
            borne("the ends of all", spans(100000, 100000, 0, 0), 0, 0, 1, 1);
            borne("spans that touch", spans(0, 50, 50, 100), 50, 50, 2, 0);
            borne("spans next to each other", spans(0, 49, 50, 100), 0, 49, 1, 2);
            borne("spans next to each other", spans(50, 100, 0, 49), 0, 49, 1, 1);
            borne("one within", spans(0, 100000, 99999, 100000), 99999, 100000, 2, 0);
            borne("the first of two places", spans(0, 100, 10, 20, 80, 90), 10, 20, 2, 4);
            borne("a number twice", spans(5, 5, 5, 5, 6, 6), 5, 5, 2, 4);
            borne("eight alike", spans(3, 4, 3, 4, 3, 4, 3, 4, 3, 4, 3, 4, 3, 4, 3, 4), 3, 4, 8, 0);
            borne("the eighth at the first number", spans(3, 9, 3, 9, 3, 9, 3, 9, 3, 9, 3, 9, 3, 9, 9, 9), 9, 9, 8, 0);
            borne("the eighth ends first", spans(3, 9, 3, 9, 3, 9, 3, 9, 3, 9, 3, 9, 3, 9, 0, 3), 3, 3, 8, 0);
            borne("the eighth is rejected", spans(3, 9, 3, 9, 3, 9, 3, 9, 3, 9, 3, 9, 3, 9, 0, 2), 3, 9, 7, 128);
            borne("all but the eighth are rejected", spans(9, 9, 8, 8, 7, 7, 6, 6, 5, 5, 4, 4, 3, 3, 0, 2), 0, 2, 1, 127);
            // As many lie in others right behind: up to the last of the same ones alone.
            borne("others behind", spans(0, 5, 0, 5, 6, 9, 6, 9), 0, 5, 2, 12);
            borne("one ends as another begins", spans(0, 5, 0, 9, 6, 9), 0, 5, 2, 4);
        });
        Check.words("NONE without SOURCES", () -> {
            fresh();
            for (int w = 0; w < 4; w++) Check.is("borne(0, " + w + ")", x.borne(0, w), PaperBoard.NONE);
            Boards.plain(x, 1);
            x.source(0, 0, 0);
            for (int w = 0; w < 4; w++) Check.is("borne(1, " + w + ")", x.borne(1, w), PaperBoard.NONE);
            Check.bounded("borne of what", 0, 3, v -> x.borne(1, v));
        });
    }

    // ---- appeals

    private static void appeals() {
        Check.words("APPEALS, numbered from 0 on, 20 at most: of a PAPER that is ADMITTED, for another BASE.", () -> {
            x = Boards.admitted(1);
            Check.is("appeals at first", x.count(8), 0);
            for (int i = 0; i < 20; i++) Check.is("appeal", x.appeal(0, i), i);
            Check.is("a 21st", x.appeal(0, 5), -1);
            Check.is("appeals", x.count(8), 20);
            Check.is("the last", x.grant(19, 600), 1);
            Check.noIndex("the 21st", () -> x.grant(20, 600));
            Check.bounded("an appeal for the base", 0, 100000, v -> Boards.admitted(1).appeal(0, v));
        });
        Check.words("An APPEAL: its number; -1: there are 20; -2: it isn't ADMITTED (the first of these).", () -> {
            x = Boards.admitted(1, 1);
            Boards.plain(x, 1);
            x.merge(0, 1);
            Check.is("of one that is gone", x.appeal(1, 5), -2);
            Check.is("of one in the queue", x.appeal(2, 5), -2);
            Check.is("appeals", x.count(8), 0);
            for (int i = 0; i < 19; i++) x.appeal(0, 5);
            Check.is("19 of one in the queue", x.appeal(2, 5), -2);
            Check.is("the 20th", x.appeal(0, 5), 19);
            Check.is("20 of one in the queue", x.appeal(2, 5), -1);
            Check.is("20 of one that is gone", x.appeal(1, 5), -1);
        });
        Check.words("their BASES when appealed, COPIES then times 100, 10,000 for another KIND, together", () -> {
            x = new PaperBoard();
            x.paper(0, 0, 0, 2, 1);
            x.paper(0, 100000, 1000, 2, 1);
            x.paper(2, 100000, 1000, 2, 1);
            x.paper(1, 0, 0, 2, 1);
            x.months(1);
            for (int p = 0; p < 4; p++) x.appeal(p, 50000);
            int[][] due = {{0, 200000, 210000, 10000}, {200000, 0, 10000, 210000}, {210000, 10000, 0, 210000}, {10000, 210000, 210000, 0}};
            for (int i = 0; i < 4; i++) for (int j = 0; j < 4; j++) Check.is("apart(" + i + ", " + j + ")", x.apart(i, j), due[i][j]);
            x.set(1, 0, 999);
            x.merge(0, 2);
            Check.is("as they were when appealed", x.apart(0, 1), 200000);
            Check.is("of one that is gone", x.apart(0, 2), 210000);
            x.appeal(1, 0);
            Check.is("a hundred copies", x.apart(1, 4), 100);
        });
        Check.words("the earlier one that was GRANTED (whenever) and is least far (of these the latest)", JudgementsBoundsTest::whichIsAlike);
    }

    private static void whichIsAlike() {
        x = Boards.admitted(10, 11, 9, 10, 50);
        for (int p = 0; p < 5; p++) x.appeal(p, 5);
        Check.is("of the first", x.alike(0), -1);
        Check.is("none is granted", x.alike(4), -1);
        x.grant(4, 1);
        Check.is("itself alone is granted", x.alike(4), -1);
        Check.is("a later one alone is granted", x.alike(3), -1);
        x.grant(0, 600);
        Check.is("granted from the last month on", x.alike(4), 0);
        Check.is("granted from the last month on", x.alike(1), 0);
        x.grant(2, 1);
        Check.is("of 40 and 41 the least far", x.alike(4), 0);
        x.grant(1, 1);
        Check.is("of 39, 40 and 41 the least far", x.alike(4), 1);
        Check.is("of 0, 1 and 1 the least far", x.alike(3), 0);
        Check.is("of 1 and 2, the earlier alone", x.alike(2), 0);
        x.grant(3, 1);
        Check.is("of those at 10 none is the latest: 11 is nearer", x.alike(4), 1);
        x.appeal(0, 5);
        Check.is("of two that are alike the latest", x.alike(5), 3);
        x.appeal(3, 5);
        x.grant(5, 1);
        Check.is("of three that are alike the latest", x.alike(6), 5);
    }

    private static void grants() {
        Check.words("GRANTED from a MONTH on (this one or later)", () -> {
            x = Boards.admitted(1, 1, 1);
            for (int p = 0; p < 3; p++) x.appeal(p, 70 + p);
            Check.bounded("grant", 1, 600, v -> x.grant(v == 600 ? 1 : 0, v));
            x.grant(2, 2);
            told("granted from this month on, that didn't go by", 0, 1, 1);
            x.months(1);
            told("granted from that month on", 0, 1, 70);
            told("granted from this one on", 2, 1, 1);
            x.months(1);
            told("granted from that one on", 2, 1, 72);
            for (int i = 0; i < 24; i++) x.months(24);
            x.months(21);
            Check.is("month", x.count(0), 600);
            told("month 600 doesn't go by", 1, 1, 1);
            x.appeal(1, 5);
            Check.bounded("grant in month 600", 600, 600, v -> x.grant(3, v));
        });
        Check.words("when that MONTH begins to go by (ahead of (a)) BASE is what was asked", () -> {
            for (int base : new int[] {0, 100000}) {
                x = Boards.admitted(1, 1);
                x.appeal(0, base);
                x.grant(0, 1);
                x.reel(100, 0);
                x.months(1);
                told("base", 0, 1, base);
                Check.is("parted by that base", x.row(0, 1, 0, 2), base == 0 ? 0 : 100);
                told("that of another one", 1, 1, 1);
            }
        });
        Check.words("when that MONTH begins to go by (ahead of (a)) BASE is what was asked", () -> {
            x = Boards.admitted(1, 30);
            x.appeal(0, 70);
            x.grant(0, 1);
            x.months(1);
            x.merge(0, 1);
            told("and what the other one had", 0, 1, 100);
            x.months(3);
            told("it is so once, not in each month behind it", 0, 1, 100);
        });
        Check.words("if the PAPER is still ADMITTED then", () -> {
            x = Boards.admitted(1, 1);
            x.appeal(1, 70);
            x.grant(0, 2);
            x.months(1);
            x.merge(0, 1);
            x.months(2);
            told("of one that is gone", 1, 1, 0);
            told("of the one it went to", 0, 1, 2);
        });
        Check.words("GRANTED from a MONTH on: 1; -1: it was GRANTED.", () -> {
            x = Boards.admitted(1);
            x.appeal(0, 70);
            Check.is("grant", x.grant(0, 3), 1);
            Check.is("again", x.grant(0, 3), -1);
            Check.is("from an earlier one on", x.grant(0, 1), -1);
            x.months(2);
            told("not from the earlier one on", 0, 1, 1);
            x.months(1);
            told("from the first one that was told", 0, 1, 70);
            Check.is("behind it", x.grant(0, 600), -1);
            Check.noNumber("again from a month ahead of this one", () -> x.grant(0, 3));
        });
    }

    // ---- what is best

    private static void best(String call, int paper, int... due) {
        for (int w = 0; w < due.length; w++) Check.is(call + ": best(" + paper + ", " + w + ")", x.best(paper, w), due[w]);
    }

    /** A paper with so much stock, and so many wards of a thousand who are all loyal to it. */
    private static void seller(int stock, int wards) {
        x = new PaperBoard();
        Boards.plain(x, 1);
        Boards.reels(x, stock);
        x.months(1);
        for (int w = 0; w < wards; w++) Boards.allAreLoyalTo(x, 0);
    }

    private static void bestPages() {
        Check.words("of all PAGES (2, 4, .. up to what pages tells for its KIND)", () -> {
            // At 100 nothing is sold: these pages alone are worth something.
            for (int most = 2; most <= 64; most++) {
                int last = most / 2 * 2;
                seller(2000, 1);
                Check.order(x, 0, "pages daily " + most + ";price if(pages=" + last + ",50,100);");
                Check.is("the last of up to " + most, x.best(0, 0), last);
                Check.is("the last of up to " + most, x.best(0, 1), 50);
                Check.order(x, 0, "pages daily " + most + ";price if(pages>" + last + ",50,100);");
                best("none above " + most, 0, 2, 100, 0, 0);
            }
            seller(2000, 1);
            Check.order(x, 0, "pages weekly 2;pages party 2;price if(pages=64,50,100);");
            Check.is("of another kind", x.best(0, 0), 64);
            Check.order(x, 0, "price if(pages<2,50,if(pages/2*2=pages,100,50));");
            best("none below 2, and none that are odd", 0, 2, 100, 0, 0);
            seller(2000, 1);
            Check.order(x, 0, "price if(pages=64,50,1);");
            best("64 without an order for them", 0, 64, 50, 104, 104 * 50 + 104 * 16 - 2 * 1996);
        });
        Check.words("PRICES (1 to 60; if there is a price, just its VALUE with these PAGES, the PAPER's PRICE as it is, 1 to 100)", () -> {
            seller(0, 1);
            x.set(0, 2, 77);
            // One hundred of two pages is for nothing: at 61, and up to 99, it would bring more.
            best("up to 60", 0, 2, 60, 1, 60);
            seller(2000, 1);
            x.set(0, 2, 77);
            x.loyal(0, 0, 0);
            best("without demand", 0, 2, 1, 0, 0);
            x.loyal(0, 0, 100);
            Check.order(x, 0, "price 0;");
            Check.is("1 at least", x.best(0, 1), 1);
            Check.order(x, 0, "price 101;");
            Check.is("100 at most", x.best(0, 1), 100);
            Check.order(x, 0, "price 100;");
            best("100, without demand", 0, 2, 100, 0, 0);
            Check.order(x, 0, "price 61;");
            best("above 60", 0, 2, 61, 390, 390 * 61 + 195 - 2 * 234);
            Check.order(x, 0, "price price;");
            Check.is("the price as it is", x.best(0, 1), 77);
            x.set(0, 1, 64);
            Check.order(x, 0, "price pages+20;pages daily 2;");
            Check.is("with these pages", x.best(0, 1), 22);
            Check.order(x, 0, "price 60;price 0-1;");
            Check.is("less than 1", x.best(0, 1), 1);
        });
    }

    private static void bestCopies() {
        Check.words("COPIES are the less of DEMAND and the most that STOCK and RIGHT (0 at least) do", () -> {
            int[][] due = {{0, 1}, {1, 3}, {2, 4}, {3, 6}, {30, 51}, {239, 399}, {240, 400}, {241, 400}, {2000, 400}};
            for (int[] d : due) {
                seller(d[0], 1);
                Check.order(x, 0, "pages daily 2;price 60;");
                Check.is("of " + d[0] + " kilograms, 400 in demand", x.best(0, 2), d[1]);
            }
            seller(0, 1);
            Check.order(x, 0, "pages daily 4;price if(pages=2,100,60);");
            best("of no kilograms none of four pages", 0, 2, 100, 0, 0);
            // A right of 6 with a stock of 0; a right of -6 with a stock of 12.
            x = Boards.admitted(1, 1);
            x.reel(12, 0);
            x.months(1);
            Boards.allAreLoyalTo(x, 0);
            Boards.allAreLoyalTo(x, 1);
            Check.order(x, 0, "pages daily 2;price 60;");
            told("right", 0, 8, -6);
            told("right", 1, 8, 6);
            Check.is("12 and a right below 0", x.best(0, 2), 21);
            Check.is("0 and a right of 6", x.best(1, 2), 11);
            x.swap(0, 1, 12);
            Check.is("0 and a right below 0", x.best(0, 2), 1);
            Check.is("12 and a right of 6", x.best(1, 2), 31);
        });
        Check.words("COPIES are the less of DEMAND and the most that STOCK and RIGHT (0 at least) do", () -> {
            seller(6000, 5);
            Check.order(x, 0, "pages daily 2;price 1;");
            best("the greatest demand of all", 0, 2, 1, 4950, 4950 + 2475 - 2 * 2970);
        });
    }

    private static void bestWorth() {
        Check.words("worth COPIES times PRICE, and COPIES times PAGES by 4, cut, less two for each kilogram", () -> {
            // 1, 2 and 3 hundreds of 2 and of 6 pages, at 1.
            int[][] due = {{2, 1, 1}, {2, 2, 2 + 1 - 2}, {2, 3, 3 + 1 - 2}, {6, 1, 1 + 1 - 2}, {6, 2, 2 + 3 - 6}, {6, 3, 3 + 4 - 10}};
            for (int[] d : due) {
                seller(2000, 0);
                x.ward(d[1] * 10 + 10);
                x.loyal(0, 0, 10);
                x.set(0, 1, 10);
                // Nobody asks for any other pages, at 100: they are worth 0, which is more than below it.
                Check.order(x, 0, "price if(pages=" + d[0] + ",1,100);");
                Check.is("demand", x.demand(0, 1), d[1]);
                if (d[2] > 0) best(d[1] + " of " + d[0] + " pages", 0, d[0], 1, d[1], d[2]);
                else Check.is(d[1] + " of " + d[0] + " pages are worth no more than none", x.best(0, 3), 0);
            }
        });
        Check.words("the one worth the most; of these with the fewest PAGES, then the least PRICE", () -> {
            seller(2000, 1);
            Check.order(x, 0, "price 100;");
            best("all are worth nothing", 0, 2, 100, 0, 0);
            Check.order(x, 0, "price if(pages=2,100,if(pages=4,98,97));pages daily 6;");
            // 4 of 20 hundreds at 98: 1960 + 20 - 48; 6 of 30 at 97: 2910 + 45 - 108.
            best("the one worth the most has the most pages", 0, 6, 97, 30, 2910 + 45 - 108);
            x.loyal(0, 0, 0);
            best("all are worth nothing at any price", 0, 2, 100, 0, 0);
            Check.order(x, 0, "");
            best("all prices are worth nothing", 0, 2, 1, 0, 0);
            seller(0, 1);
            x.loyal(0, 0, 100);
            Check.order(x, 0, "pages daily 2;");
            best("one hundred", 0, 2, 60, 1, 60);
        });
        Check.words("of these with the fewest PAGES, then the least PRICE", () -> {
            seller(2000, 1);
            // 2 at 20: 80 * 20 + 40 - 96 = 1544; 4 at 40: 2316; 6 at 60: 2316; tenfold.
            Check.order(x, 0, "pages daily 6;price pages*10;");
            Check.is("worth", x.best(0, 3), 400 * 60 + 400 * 6 / 4 - 2 * 720);
            Check.is("worth", x.best(0, 3), 600 * 40 + 600 * 4 / 4 - 2 * 720);
            Check.is("of two worth as much the fewest pages", x.best(0, 0), 4);
            Check.is("of two worth as much the fewest pages", x.best(0, 1), 40);
            x.loyal(0, 0, 10);
            Check.order(x, 0, "pages daily 4;price if(pages=2,60,43);");
            // 57 of 4 at 43 are worth as much: 2451 + 57 - 136.
            best("the fewest pages ahead of the least price", 0, 2, 60, 40, 2400 + 20 - 48);
            Check.order(x, 0, "pages daily 4;price if(pages=2,60,44);");
            Check.is("56 at 44 are worth more", x.best(0, 0), 4);
            Check.order(x, 0, "pages daily 4;price if(pages=2,61,43);");
            Check.is("39 at 61 are worth less", x.best(0, 0), 4);
        });
        Check.words("then the least PRICE", () -> {
            seller(2000, 0);
            x.ward(500);
            x.loyal(0, 0, 1);
            // 3 at 40 and 2 at 60 are both worth 120 and 1 less 2.
            best("of two prices worth as much the least", 0, 2, 40, 3, 119);
            Check.order(x, 0, "price 60;");
            best("the other one", 0, 2, 60, 2, 119);
        });
    }

    private static void bestOfWhom() {
        Check.words("BEST: 0 PAGES, 1 PRICE, 2 COPIES, 3 what it is worth; NOTHING: it isn't ADMITTED.", () -> {
            x = Boards.admitted(1, 1);
            Boards.plain(x, 1);
            x.merge(0, 1);
            for (int p = 1; p <= 2; p++) {
                for (int w = 0; w < 4; w++) Check.is("best(" + p + ", " + w + ")", x.best(p, w), NOTHING);
                int paper = p;
                Check.bounded("best of what", 0, 3, v -> x.best(paper, v));
            }
            best("without readers", 0, 2, 1, 0, 0);
        });
    }

    // ---- rows

    private static void rows() {
        Check.words("ROWS of each MONTH, of each PAPER that was ADMITTED in it", () -> {
            x = new PaperBoard();
            Boards.plain(x, 1);
            Check.is("ahead of all months", x.row(0, 0, 0, 1), NOTHING);
            Check.order(x, 1, "new 0;");
            x.months(1);
            Boards.plain(x, 1);
            x.months(1);
            Check.is("month 0", x.row(0, 0, 0, 600), 0);
            Check.is("month 1", x.row(0, 1, 0, 600), 0);
            Check.is("this month", x.row(0, 2, 0, 600), NOTHING);
            Check.is("one in the queue", x.row(1, 1, 0, 600), NOTHING);
            for (int v : new int[] {-1, 600, 601, Integer.MIN_VALUE, Integer.MAX_VALUE}) Check.is("month " + v, x.row(0, v, 0, Integer.MAX_VALUE), NOTHING);
            for (int i = 0; i < 24; i++) x.months(24);
            x.months(22);
            Check.is("month 599", x.row(0, 599, 0, 600), 0);
            Check.is("month 600", x.row(0, 600, 0, 601), NOTHING);
            Check.is("correct month 599", x.correct(0, 599, 7), 1);
            Check.is("correct month 600", x.correct(0, 600, 7), -1);
            Check.is("used", x.row(0, 599, 1, 600), 7);
            Check.is("not known then", x.row(0, 599, 1, 599), NOTHING);
        });
        Check.words("NOTHING: there is none, or it was not KNOWN then (that MONTH is not behind the row's).", () -> {
            x = Boards.withStock(10);
            for (int w = 0; w < 4; w++) {
                Check.is("ahead of it, " + w, x.row(0, 0, w, -1), NOTHING);
                Check.is("in its month, " + w, x.row(0, 0, w, 0), NOTHING);
                int[] due = {10, 0, 10, 0};
                Check.is("a month behind, " + w, x.row(0, 0, w, 1), due[w]);
                Check.is("long behind, " + w, x.row(0, 0, w, Integer.MAX_VALUE), due[w]);
                Check.is("the least month of all, " + w, x.row(0, 0, w, Integer.MIN_VALUE), NOTHING);
                Check.is("the least row of all, " + w, x.row(0, Integer.MIN_VALUE, w, 1), NOTHING);
            }
            Check.bounded("row of what", 0, 3, v -> x.row(0, 0, v, 1));
            Check.bounded("no row of what", 0, 3, v -> x.row(0, 5, v, 1));
        });
        Check.words("what it was PARTED, USED, its STOCK and COINS behind it", () -> {
            x = new PaperBoard();
            for (int p = 0; p < 12; p++) x.paper(0, 1, 10, 10, 1);
            Boards.reels(x, 1200);
            Check.order(x, 0, "pages daily 2;fine 3;waste 100;way alike;");
            x.months(1);
            // One reel, for the first one: 100 are parted, 30 used, 1 comes back, 24 are paid.
            int[][] due = {{100, 30, 1171, -24}, {100, 0, 0, 0}};
            for (int p = 0; p < 12; p++) for (int w = 0; w < 4; w++) Check.is("row of " + p + ", " + w, x.row(p, 0, w, 1), due[Math.min(p, 1)][w]);
            for (int p = 0; p < 12; p++) Check.is("correct", x.correct(p, 0, 900 + p), 1);
            for (int p = 0; p < 12; p++) Check.is("used of " + p, x.row(p, 0, 1, 1), 900 + p);
        });
    }

    private static void toldAnew() {
        Check.words("USED of a row may be told anew, 60 times at most", () -> {
            x = Boards.admitted(1, 1);
            x.months(1);
            Check.is("told anew at first", x.count(9), 0);
            for (int i = 1; i <= 60; i++) {
                Check.is("correct", x.correct(i % 2, i / 2 % 2, i), 1);
                Check.is("told anew", x.count(9), i);
            }
            Check.is("a 61st", x.correct(0, 0, 61), -2);
            Check.is("a 61st of another row", x.correct(1, 1, 61), -2);
            Check.is("told anew", x.count(9), 60);
            Check.is("the 60th", x.row(0, 0, 1, 2), 60);
            Check.is("the 59th", x.row(1, 1, 1, 2), 59);
        });
        Check.words("1; -1: there is no such row; -2: 60 times (the first of these). IllegalArgumentException: it is not 0 to 1,000,000.", () -> {
            x = Boards.admitted(1);
            Boards.plain(x, 1);
            Check.bounded("used", 0, 1000000, v -> x.correct(0, 0, v));
            Check.is("the most", x.row(0, 0, 1, 1), 1000000);
            x.correct(0, 0, 0);
            Check.is("the least", x.row(0, 0, 1, 1), 0);
            for (int v : new int[] {-1, 1, 600, Integer.MIN_VALUE, Integer.MAX_VALUE}) Check.is("no row of month " + v, x.correct(0, v, 5), -1);
            Check.is("no row of one in the queue", x.correct(1, 0, 5), -1);
            Check.bounded("used of no row", 0, 1000000, v -> x.correct(1, 0, v));
            Check.is("none of these counts", x.count(9), 3);
            for (int i = 3; i < 60; i++) x.correct(0, 0, i);
            Check.is("no row, and 60 times", x.correct(1, 0, 5), -1);
            Check.is("60 times", x.correct(0, 0, 5), -2);
            Check.bounded("used behind 60 times", 0, 1000000, v -> x.correct(0, 0, v));
        });
        Check.words("as KNOWN in a MONTH it is what was told last up to that one (nothing else changes)", () -> {
            x = Boards.withStock(2000);
            Boards.copiesPagesPrice(x, 0, 10, 10, 1);
            x.months(1);
            x.correct(0, 1, 500);
            x.correct(0, 1, 501);
            x.months(1);
            x.months(1);
            x.correct(0, 1, 502);
            x.months(1);
            int[] due = {30, NOTHING, 501, 501, 502, 502, 502};
            for (int known = 1; known <= 6; known++) Check.is("as known in " + known, x.row(0, 1, 1, known), due[known]);
            Check.is("a row that isn't told anew", x.row(0, 2, 1, 4), 30);
            Check.is("parted", x.row(0, 1, 0, 5), 0);
            Check.is("stock", x.row(0, 1, 2, 5), 1970);
            Check.is("coins", x.row(0, 1, 3, 5), 0);
            told("used", 0, 10, 30);
            told("stock", 0, 7, 2000 - 4 * 30);
            // Told a month behind its own, it is known a month behind with what it was.
            x = Boards.withStock(2000);
            Boards.copiesPagesPrice(x, 0, 10, 10, 1);
            x.months(2);
            x.correct(0, 1, 500);
            Check.is("ahead of what is told", x.row(0, 1, 1, 2), 30);
            Check.is("when it is told", x.row(0, 1, 1, 3), 500);
        });
    }

    public static void main(String[] args) {
        sources();
        appeals();
        grants();
        bestPages();
        bestCopies();
        bestWorth();
        bestOfWhom();
        rows();
        toldAnew();
        Check.end("JudgementsBoundsTest");
    }
}
