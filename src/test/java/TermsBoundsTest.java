/** The boundaries that the document names in its first Terms: of months, papers, reels and wards. */
public final class TermsBoundsTest {
    private static PaperBoard x;

    private static PaperBoard fresh() {
        x = new PaperBoard();
        return x;
    }

    private static void told(int paper, int what, int due) {
        Check.is("told(" + paper + ", " + what + ")", x.told(paper, what), due);
    }

    private static void months() {
        fresh();
        Check.is("month at first", x.count(0), 0);
        for (int i = 1; i <= 25; i++) Check.is("months(24)", x.months(24), i * 24);
        Check.is("the last month", x.count(0), 600);
        Check.noState("one more", () -> x.months(1));
        Check.is("the last month", x.count(0), 600);
    }

    private static void papers() {
        fresh();
        for (int i = 0; i < 12; i++) Check.is("paper", x.paper(0, 100 + i, 0, 2, 1), i);
        Check.noState("a 13th", () -> x.paper(0, 112, 0, 2, 1));
        Check.is("papers", x.count(1), 12);
        told(0, 1, 100);
        told(11, 1, 111);
        Check.noIndex("the 13th", () -> x.told(12, 1));
    }

    private static void numbersOfPapers() {
        Check.words("a KIND (0 daily, 1 weekly, 2 party)", () -> {
            Check.bounded("a paper with the kind", 0, 2, v -> fresh().paper(v, 1, 1, 2, 1));
            for (int kind = 0; kind <= 2; kind++) {
                fresh().paper(kind, 1, 1, 2, 1);
                told(0, 0, kind);
                Check.order(x, 0, "pages daily 10;pages weekly 11;pages party 12;");
                Check.is("pages of the kind", x.tells(0, 1), 10 + kind);
            }
        });
        Check.words("BASE (0 to 100,000 kilograms)", () -> {
            Check.bounded("a paper with the base", 0, 100000, v -> fresh().paper(0, v, 1, 2, 1));
            for (int base : new int[] {0, 100000}) {
                fresh().paper(0, base, 1, 2, 1);
                told(0, 1, base);
            }
        });
        Check.words("COPIES (0 to 1,000 hundreds)", () -> {
            Check.bounded("a paper with copies", 0, 1000, v -> fresh().paper(0, 1, v, 2, 1));
            Check.bounded("set copies", 0, 1000, v -> set(0, v));
            for (int copies : new int[] {0, 1000}) {
                fresh().paper(0, 1, copies, 2, 1);
                told(0, 2, copies);
            }
        });
        Check.words("PAGES (2 to 64)", () -> {
            Check.bounded("a paper with pages", 2, 64, v -> fresh().paper(0, 1, 1, v, 1));
            Check.bounded("set pages", 2, 64, v -> set(1, v));
            for (int pages : new int[] {2, 64}) {
                fresh().paper(0, 1, 1, pages, 1);
                told(0, 3, pages);
            }
        });
        Check.words("PRICE (1 to 100)", () -> {
            Check.bounded("a paper with the price", 1, 100, v -> fresh().paper(0, 1, 1, 2, v));
            Check.bounded("set the price", 1, 100, v -> set(2, v));
            for (int price : new int[] {1, 100}) {
                fresh().paper(0, 1, 1, 2, price);
                told(0, 4, price);
            }
        });
        Check.words("POINTS (0 to 1,000; 0 at first)", () -> {
            fresh().paper(0, 1, 1, 2, 1);
            told(0, 5, 0);
            Check.bounded("set points", 0, 1000, v -> set(3, v));
            set(3, 1000);
            told(0, 5, 1000);
        });
    }

    /** Sets a number of a paper; then it is told. */
    private static int set(int what, int v) {
        fresh().paper(0, 1, 1, 2, 1);
        int was = x.set(0, what, v);
        told(0, what == 3 ? 5 : what + 2, v);
        return was;
    }

    private static void whatPapersOwe() {
        Check.words("COINS (0 at first; they may go below)", () -> {
            x = Boards.admitted(1);
            told(0, 6, 0);
            x.reel(1, 0);
            x.bid(0, 1, 1);
            Check.order(x, 0, "way bids;");
            x.months(1);
            told(0, 6, -1);
        });
        Check.words("STOCK (kilograms; 0 at first)", () -> {
            fresh().paper(0, 100000, 1000, 64, 100);
            told(0, 7, 0);
            x.months(1);
            told(0, 7, 0);
        });
        Check.words("RIGHT (kilograms that are owed; 0 at first; it may go below)", () -> {
            x = Boards.admitted(1);
            told(0, 8, 0);
            x.reel(2000, 0);
            x.bid(0, 1, 0);
            Check.order(x, 0, "way bids;");
            x.months(1);
            told(0, 8, -1999);
        });
        Check.words("A PAPER waits in a QUEUE at first; then it is ADMITTED; MERGED into another one it is GONE.", () -> {
            fresh().paper(0, 1, 1, 2, 1);
            x.paper(0, 1, 1, 2, 1);
            told(1, 9, 0);
            x.months(1);
            told(1, 9, 1);
            x.merge(0, 1);
            told(1, 9, 2);
            told(0, 9, 1);
            x.months(24);
            told(1, 9, 2);
        });
    }

    private static void dry(int weight, int wet, int due) {
        fresh().reel(weight, wet);
        Check.is("pool of " + weight + ", " + wet, x.count(5), due);
        x.steal(0);
        Check.is("found of " + weight + ", " + wet, x.find(0), due);
    }

    private static void reels() {
        Check.words("REELS, numbered from 0 on, 80 at most", () -> {
            fresh();
            for (int i = 0; i < 80; i++) Check.is("reel", x.reel(i + 1, 0), i);
            Check.is("an 81st", x.reel(1000, 0), -1);
            Check.is("reels", x.count(4), 80);
            Check.is("pool", x.count(5), 80 * 81 / 2);
            Check.is("where", x.where(79), -1);
            Check.noIndex("the 81st", () -> x.where(80));
            x.steal(79);
            Check.is("an 81st, though one is stolen", x.reel(1000, 0), -1);
        });
        Check.words("a weight (1 to 2,000)", () -> Check.bounded("a reel with the weight", 1, 2000, v -> fresh().reel(v, 0)));
        Check.words("WET (0 to 500 thousandths)", () -> Check.bounded("a reel with wet", 0, 500, v -> fresh().reel(9, v)));
        Check.words("DRY is weight times 1,000 less WET, by 1,000, cut.", () -> {
            dry(1, 0, 1);
            dry(1, 1, 0);
            dry(1, 500, 0);
            dry(2, 500, 1);
            dry(3, 500, 1);
            dry(3, 334, 1);
            dry(3, 333, 2);
            dry(999, 1, 998);
            dry(1000, 1, 999);
            dry(2000, 0, 2000);
            dry(2000, 1, 1998);
            dry(2000, 500, 1000);
        });
        Check.words("A REEL is in the STORE at first, then a PAPER's; or STOLEN.", () -> {
            x = Boards.admitted(1);
            x.reel(10, 0);
            Check.is("where", x.where(0), -1);
            x.months(1);
            Check.is("where", x.where(0), 0);
            x.steal(0);
            Check.is("where", x.where(0), -2);
        });
    }

    private static void wards() {
        Check.words("WARDS, numbered from 0 on, 5 at most", () -> {
            fresh();
            for (int i = 0; i < 5; i++) Check.is("ward", x.ward(100 + i), i);
            Check.is("a 6th", x.ward(1000), -1);
            Check.is("wards", x.count(7), 5);
            x.paper(0, 1, 1, 2, 1);
            Check.is("loyal in the last", x.loyal(4, 0, 50), 0);
            Check.is("demand: 104 times 50 times 50", x.demand(0, 50), 26);
            Check.noIndex("the 6th", () -> x.loyal(5, 0, 50));
        });
        Check.words("READERS (0 to 1,000 hundreds)", () -> {
            Check.bounded("a ward with readers", 0, 1000, v -> fresh().ward(v));
            Check.is("demand of no readers", demand(0, 100, 1), 0);
            Check.is("demand of all readers", demand(1000, 100, 1), 990);
        });
        Check.words("a LOYAL part (0 to 100 hundredths; 0 at first; those of one WARD together may be above 100)", () -> {
            Check.bounded("loyal", 0, 100, v -> {
                fresh().ward(1000);
                x.paper(0, 1, 1, 2, 1);
                return x.loyal(0, 0, v);
            });
            x.paper(0, 1, 1, 2, 1);
            Check.is("loyal to another one at first", x.loyal(0, 1, 100), 0);
            Check.is("together above 100", x.loyal(0, 0, 100) + x.demand(0, 1) + x.demand(1, 1), 990 + 990);
        });
        Check.words("READERS times LOYAL times (100 less PRICE), by 10,000, cut for each WARD", () -> {
            Check.is("101 * 1 * 99 = 9,999", demand(101, 1, 1), 0);
            Check.is("200 * 1 * 50 = 10,000", demand(200, 1, 50), 1);
            Check.is("1000 * 100 * 0", demand(1000, 100, 100), 0);
            Check.is("1000 * 100 * 1", demand(1000, 100, 99), 10);
            fresh().paper(0, 1, 1, 2, 1);
            for (int w = 0; w < 5; w++) {
                x.ward(101);
                x.loyal(w, 0, 1);
            }
            Check.is("five times 9,999", x.demand(0, 1), 0);
            fresh().paper(0, 1, 1, 2, 1);
            for (int w = 0; w < 5; w++) {
                x.ward(1000);
                x.loyal(w, 0, 100);
            }
            Check.is("the most of all", x.demand(0, 1), 4950);
        });
    }

    private static int demand(int readers, int loyal, int price) {
        fresh().ward(readers);
        x.paper(0, 1, 1, 2, 1);
        x.loyal(0, 0, loyal);
        return x.demand(0, price);
    }

    public static void main(String[] args) {
        Check.words("MONTHS go by: 0 at first, 600 at most.", TermsBoundsTest::months);
        Check.words("PAPERS, numbered from 0 on, 12 at most", TermsBoundsTest::papers);
        numbersOfPapers();
        whatPapersOwe();
        reels();
        wards();
        Check.end("TermsBoundsTest");
    }
}
