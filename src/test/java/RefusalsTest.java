import java.util.ArrayList;
import java.util.List;

/** Calls that the document refuses: what they throw or answer, which comes first, and that they change nothing. */
public final class RefusalsTest {
    private static final int MIN = Integer.MIN_VALUE;
    private static final int MAX = Integer.MAX_VALUE;
    private static PaperBoard x;

    interface Made {
        int answer(PaperBoard board);
    }

    // ---- what there is at first

    private static void aNewObject() {
        Check.words("MONTH 0: no PAPERS, REELS, WARDS, ORDERS.", () -> {
            x = new PaperBoard();
            for (int w = 0; w <= 11; w++) Check.is("count(" + w + ")", x.count(w), 0);
            Check.is("fault", x.fault(), PaperBoard.NONE);
            for (int m : new int[] {0, 600}) Check.is("force", x.force(m), PaperBoard.NONE);
            Check.is("months", x.months(1), 1);
            Check.is("months", x.months(24), 25);
            Check.is("empty order", x.order(0, 0), 0);
        });
        Check.words("`NOTHING = -2000000000`", () -> Check.is("NOTHING", PaperBoard.NOTHING, -2000000000));
        Check.words("A PAPER, last in the QUEUE: its number. IllegalArgumentException: one is none such", () -> {
            x = new PaperBoard();
            Check.order(x, 0, "new 1;");
            for (int i = 0; i < 3; i++) Check.is("paper", Boards.plain(x, 1), i);
            x.months(1);
            Check.is("paper", Boards.plain(x, 1), 3);
            x.months(2);
            for (int i = 0; i < 4; i++) Check.is("admitted in turn", x.told(i, 9), i < 3 ? 1 : 0);
            int[][] none = {{-1, 0, 0, 2, 1}, {3, 0, 0, 2, 1}, {0, -1, 0, 2, 1}, {0, 100001, 0, 2, 1}, {0, 0, -1, 2, 1},
                {0, 0, 1001, 2, 1}, {0, 0, 0, 1, 1}, {0, 0, 0, 65, 1}, {0, 0, 0, 2, 0}, {0, 0, 0, 2, 101}};
            for (int[] n : none) Check.noNumber("one of five is none such", () -> x.paper(n[0], n[1], n[2], n[3], n[4]));
            Check.is("papers", x.count(1), 4);
        });
    }

    // ---- numbers that there aren't

    /** The calls that take the number of a paper; all else in them is as it should be. */
    private static void papersThereArent(int many) {
        Check.indexed("set", many, p -> x.set(p, 0, 5));
        Check.indexed("told", many, p -> x.told(p, 0));
        Check.indexed("loyal", many, p -> x.loyal(0, p, 5));
        Check.indexed("demand", many, p -> x.demand(p, 5));
        Check.indexed("tells", many, p -> x.tells(p, 0));
        Check.indexed("bid", many, p -> x.bid(p, 5, 5));
        Check.indexed("parted", many, p -> x.parted(p, 0));
        Check.indexed("breach", many, p -> x.breach(p, 0));
        Check.indexed("source", many, p -> x.source(p, 5, 5));
        Check.indexed("borne", many, p -> x.borne(p, 0));
        Check.indexed("appeal", many, p -> x.appeal(p, 5));
        Check.indexed("best", many, p -> x.best(p, 0));
        Check.indexed("correct", many, p -> x.correct(p, 0, 5));
        Check.indexed("row", many, p -> x.row(p, 0, 0, 1));
        int one = many - 1;
        Check.indexed("swap of", many, p -> x.swap(p, Math.max(one, 0), 5));
        Check.indexed("swap with", many, p -> x.swap(Math.max(one, 0), p, 5));
        Check.indexed("netted of", many, p -> x.netted(p, Math.max(one, 0)));
        Check.indexed("netted with", many, p -> x.netted(Math.max(one, 0), p));
        Check.indexed("gain of", many, p -> x.gain(p, Math.max(one, 0)));
        Check.indexed("gain with", many, p -> x.gain(Math.max(one, 0), p));
        Check.indexed("merge of", many, p -> x.merge(p, Math.max(one, 0)));
        Check.indexed("merge with", many, p -> x.merge(Math.max(one, 0), p));
    }

    private static void noSuchPaper() {
        for (int many : new int[] {0, 1, 2, 11, 12}) {
            x = new PaperBoard();
            x.ward(5);
            for (int i = 0; i < many; i++) Boards.plain(x, 1);
            papersThereArent(many);
            if (many > 0) {
                x.months(1);
                papersThereArent(many);
            }
        }
    }

    private static void noSuchReelOrWard() {
        Check.words("Where a REEL is: the PAPER; -1 the STORE; -2 STOLEN. IndexOutOfBoundsException: no such REEL (so below).", () -> {
            for (int many : new int[] {0, 1, 2, 80}) {
                x = new PaperBoard();
                for (int i = 0; i < many; i++) x.reel(5, 5);
                Check.indexed("where", many, r -> x.where(r));
                Check.indexed("find", many, r -> x.find(r));
                Check.indexed("steal", many, r -> x.steal(r));
                Check.indexed("find of stolen ones", many, r -> x.find(r));
            }
        });
        Check.words("IndexOutOfBoundsException: also no such WARD", () -> {
            for (int many : new int[] {0, 1, 4, 5}) {
                x = new PaperBoard();
                Boards.plain(x, 1);
                for (int i = 0; i < many; i++) x.ward(5);
                Check.indexed("loyal", many, w -> x.loyal(w, 0, 5));
                Check.noIndex("no such ward, nor paper", () -> x.loyal(many, 1, 5));
                Check.noIndex("no such ward, nor part", () -> x.loyal(many, 0, 101));
            }
        });
    }

    private static void noSuchAppeal() {
        for (int many : new int[] {0, 1, 2, 20}) {
            x = Boards.admitted(1);
            for (int i = 0; i < many; i++) x.appeal(0, 5);
            int one = Math.max(many - 1, 0);
            Check.indexed("alike", many, a -> x.alike(a));
            Check.indexed("apart of", many, a -> x.apart(a, one));
            Check.indexed("apart from", many, a -> x.apart(one, a));
            Check.indexed("grant", many, a -> x.grant(a, 600));
        }
    }

    // ---- numbers that are none such

    private static void anotherWhat() {
        x = new PaperBoard();
        Boards.plain(x, 1);
        Boards.plain(x, 1);
        Check.words("Of a PAPER: 0 COPIES, 1 PAGES, 2 PRICE, 3 POINTS: what it was; -1: it is GONE.", () -> Check.bounded("set", 0, 3, w -> x.set(0, w, 2)));
        Check.words("8 RIGHT, 9: 0 QUEUED, 1 ADMITTED, 2 GONE, 10 USED", () -> Check.bounded("told", 0, 10, w -> x.told(0, w)));
        Check.words("7 least, 8 way (0 base, 1 points, 2 alike, 3 bids). IllegalArgumentException: another what.", () -> Check.bounded("tells", 0, 8, w -> x.tells(0, w)));
        Check.words("4 its CLAUSE (by number in that ORDER, from 0 on; of 1, if both; NONE). IllegalArgumentException: another what.", () -> Check.bounded("breach", 0, 4, w -> x.breach(0, w)));
        Check.words("3 REJECTED, as bits; NONE without SOURCES. IllegalArgumentException: another what.", () -> Check.bounded("borne", 0, 3, w -> x.borne(0, w)));
        Check.words("NOTHING: it isn't ADMITTED. IllegalArgumentException: another what.", () -> Check.bounded("best", 0, 3, w -> x.best(0, w)));
        Check.words("(that MONTH is not behind the row's). IllegalArgumentException: another what.", () -> Check.bounded("row", 0, 3, w -> x.row(0, 0, w, 1)));
        Check.words("10 bytes of the TAPE, 11 REELS STOLEN; NONE for others", () -> {
            x = new PaperBoard();
            for (int w = 0; w <= 11; w++) Check.is("count(" + w + ")", x.count(w), 0);
            for (int w : new int[] {-1, 12, MIN, MAX}) Check.is("count(" + w + ")", x.count(w), PaperBoard.NONE);
        });
    }

    private static void anotherNumber() {
        Check.words("DEMAND of a PAPER. IllegalArgumentException: the PRICE.", () -> Check.bounded("demand", 1, 100, v -> Boards.admitted(1).demand(0, v)));
        Check.words("The ORDER IN FORCE in a MONTH; NONE. IllegalArgumentException: the MONTH.", () -> {
            x = new PaperBoard();
            Check.bounded("force", 0, 600, v -> x.force(v));
            Check.is("none", x.force(600), PaperBoard.NONE);
            Check.order(x, 600, "");
            Check.bounded("force", 0, 600, v -> x.force(v));
            Check.is("the first of the last month", x.force(600), 0);
        });
        Check.words("kilograms not 1 to 100,000, COINS for one not 0 to 100", () -> {
            x = Boards.admitted(1);
            Check.bounded("bid of kilograms", 1, 100000, v -> x.bid(0, v, 5));
            Check.bounded("bid of coins", 0, 100, v -> x.bid(0, 5, v));
            Boards.plain(x, 1);
            Check.bounded("bid of one in the queue", 1, 100000, v -> x.bid(1, v, 5));
        });
        Check.words("the MONTH is ahead of this one, or above 600", () -> {
            x = Boards.admitted(1);
            x.months(6);
            for (int i = 0; i < 3; i++) x.appeal(0, 5);
            Check.bounded("grant in month 7", 7, 600, v -> x.grant(v == 600 ? 1 : 0, v));
            Check.is("the third one was refused", x.grant(2, 8), 1);
        });
    }

    // ---- which comes first

    private static void indexAheadOfNumber() {
        x = Boards.admitted(1);
        x.ward(5);
        x.appeal(0, 5);
        for (int p : new int[] {-1, 1}) {
            Check.noIndex("set", () -> x.set(p, 4, -1));
            Check.noIndex("told", () -> x.told(p, 11));
            Check.noIndex("loyal", () -> x.loyal(0, p, 101));
            Check.noIndex("loyal", () -> x.loyal(p, 0, 101));
            Check.noIndex("demand", () -> x.demand(p, 0));
            Check.noIndex("tells", () -> x.tells(p, 9));
            Check.noIndex("bid", () -> x.bid(p, 0, 101));
            Check.noIndex("parted", () -> x.parted(p, 4));
            Check.noIndex("swap", () -> x.swap(p, 0, 0));
            Check.noIndex("swap", () -> x.swap(0, p, 0));
            Check.noIndex("breach", () -> x.breach(p, 5));
            Check.noIndex("source", () -> x.source(p, 2, 1));
            Check.noIndex("borne", () -> x.borne(p, 4));
            Check.noIndex("appeal", () -> x.appeal(p, -1));
            Check.noIndex("grant", () -> x.grant(p, 601));
            Check.noIndex("best", () -> x.best(p, 4));
            Check.noIndex("correct", () -> x.correct(p, 0, -1));
            Check.noIndex("row", () -> x.row(p, 0, 4, 1));
        }
    }

    private static void exceptionAheadOfAnswer() {
        x = new PaperBoard();
        for (int i = 0; i < 12; i++) Boards.plain(x, 1);
        for (int i = 0; i < 80; i++) x.reel(1, 0);
        for (int i = 0; i < 5; i++) x.ward(1);
        for (int i = 0; i < 8; i++) x.source(0, 1, 1);
        Check.noNumber("a 13th paper of no kind", () -> x.paper(3, 1, 1, 2, 1));
        Check.noNumber("a 13th paper of no base", () -> x.paper(0, -1, 1, 2, 1));
        Check.noNumber("a 13th paper of no copies", () -> x.paper(0, 1, 1001, 2, 1));
        Check.noNumber("a 13th paper of no pages", () -> x.paper(0, 1, 1, 65, 1));
        Check.noNumber("a 13th paper of no price", () -> x.paper(0, 1, 1, 2, 0));
        Check.noNumber("an 81st reel of no weight", () -> x.reel(0, 0));
        Check.noNumber("a 6th ward", () -> x.ward(-1));
        Check.noNumber("a 9th source", () -> x.source(0, 2, 1));
        Check.noNumber("a bid in the queue", () -> x.bid(0, 0, 0));
        Check.noNumber("parted in the queue", () -> x.parted(0, -2));
        Check.noNumber("a swap in the queue", () -> x.swap(0, 1, 0));
        Check.noNumber("an appeal in the queue", () -> x.appeal(0, -1));
        Check.noNumber("best in the queue", () -> x.best(0, -1));
        Check.noNumber("no such row", () -> x.correct(0, 0, -1));
        Check.noNumber("no such row", () -> x.row(0, 0, -1, 0));
        x.months(1);
        x.merge(0, 1);
        Check.noNumber("set of one that is gone", () -> x.set(1, 4, 5));
        Check.noNumber("set of one that is gone", () -> x.set(1, 1, 1));
        for (int i = 0; i < 20; i++) x.appeal(0, 1);
        Check.noNumber("a 21st appeal", () -> x.appeal(0, 100001));
        x.grant(0, 1);
        Check.noNumber("granted again", () -> x.grant(0, 0));
    }

    private static void setOfOneThatIsGone() {
        x = Boards.admitted(1, 1);
        x.merge(0, 1);
        int[] told = {0, 2, 1, 0};
        for (int w = 0; w < 4; w++) {
            Check.is("set(1, " + w + ")", x.set(1, w, 7), -1);
            Check.is("it stays", x.told(1, w == 3 ? 5 : w + 2), told[w]);
        }
    }

    // ---- answers of what isn't

    private static void whereItWas() {
        x = Boards.withStock(9);
        x.reel(5, 0);
        Check.is("with a paper", x.steal(0), 0);
        Check.is("again", x.steal(0), -3);
        Check.is("in the store", x.steal(1), -1);
        Check.is("again", x.steal(1), -3);
        x.find(1);
        Check.is("found", x.steal(1), -1);
    }

    private static void usedInItsLastMonth() {
        x = Boards.withStock(2000);
        Boards.plain(x, 1);
        Check.is("of one in the queue", x.told(1, 10), 0);
        x.set(0, 0, 10);
        x.months(1);
        Check.is("of one that printed", x.told(0, 10), 6);
        Check.is("of one that printed nothing", x.told(1, 10), 0);
        x.set(0, 0, 20);
        x.months(1);
        x.merge(1, 0);
        x.months(3);
        Check.is("of one that is gone", x.told(0, 10), 12);
        Check.is("of the one it went to, that prints its copies", x.told(1, 10), 12);
        x.set(1, 0, 0);
        x.months(1);
        Check.is("of one that prints nothing any more", x.told(1, 10), 0);
    }

    private static void nothingIsAlike() {
        x = Boards.admitted(1);
        for (int i = 0; i < 20; i++) x.appeal(0, 5);
        for (int i = 0; i < 20; i++) Check.is("none is granted", x.alike(i), PaperBoard.NONE);
        x.grant(19, 600);
        for (int i = 0; i < 20; i++) Check.is("the last is granted", x.alike(i), PaperBoard.NONE);
        x.grant(0, 600);
        for (int i = 0; i < 20; i++) Check.is("the first is granted", x.alike(i), i == 0 ? PaperBoard.NONE : 0);
        x.grant(18, 600);
        Check.is("of two the latest", x.alike(19), 18);
    }

    private static void noPrice() {
        x = new PaperBoard();
        Boards.plain(x, 1);
        Check.is("without an order", x.tells(0, 2), PaperBoard.NONE);
        Check.order(x, 0, "part 1;");
        Check.is("by one that tells none", x.tells(0, 2), PaperBoard.NONE);
        Check.order(x, 0, "price 0-1;");
        Check.is("-1 is no NONE", x.tells(0, 2), 1);
    }

    /** What the document doesn't refuse to one that is gone. */
    private static void whatOneThatIsGoneMayStill() {
        x = Boards.admitted(1, 1);
        x.ward(1000);
        x.appeal(1, 50);
        x.source(1, 3, 4);
        Check.order(x, 0, "part base+7;fine 3;price 9;");
        x.merge(0, 1);
        Check.is("source", x.source(1, 3, 5), 2);
        Check.is("borne", x.borne(1, 1), 4);
        Check.is("loyal", x.loyal(0, 1, 100), 0);
        Check.is("demand", x.demand(1, 1), 990);
        Check.is("tells", x.tells(1, 0), 7);
        Check.is("tells", x.tells(1, 2), 9);
        Check.is("tells", x.tells(1, 3), 3);
        Check.is("grant", x.grant(0, 1), 1);
        Check.is("row", x.row(1, 0, 1, 1), 0);
        Check.is("correct", x.correct(1, 0, 77), 1);
        Check.is("row", x.row(1, 0, 1, 1), 77);
        x.months(1);
        Check.is("its base", x.told(1, 1), 0);
        Check.is("no row of a month in which it was gone", x.correct(1, 1, 77), -1);
    }

    // ---- a refused call changes nothing

    /** A board with some of all there is, where much is full; always the same. */
    private static PaperBoard rich() {
        PaperBoard b = new PaperBoard();
        b.ward(500);
        b.paper(0, 600, 100, 10, 20);
        b.paper(1, 300, 50, 20, 30);
        b.paper(2, 100, 40, 4, 10);
        b.loyal(0, 0, 40);
        b.reel(1000, 100);
        b.reel(500, 0);
        b.reel(300, 0);
        Check.order(b, 0, "pages daily 8;price 21;new 3;");
        b.months(2);
        b.merge(0, 2);
        b.paper(0, 50, 10, 4, 10);
        b.steal(1);
        b.reel(70, 3);
        b.bid(0, 30, 5);
        b.swap(0, 1, 10);
        b.appeal(0, 700);
        b.appeal(1, 400);
        b.grant(0, 3);
        b.correct(0, 0, 55);
        for (int i = 0; i < 8; i++) b.source(0, 10 * i, 75 + i);
        Check.order(b, 2, "part base+stock;swap 50;new 0;");
        Check.order(b, 4, "new x;");
        Check.tape(b, "fine 3;");
        return b;
    }

    /** All that can be seen of such a board, within its 512 calls. */
    private static List<Integer> picture(PaperBoard b) {
        List<Integer> all = new ArrayList<>();
        for (int w = 0; w <= 11; w++) all.add(b.count(w));
        all.add(b.fault());
        for (int m : new int[] {0, 2, 4, 600}) all.add(b.force(m));
        for (int r = 0; r < b.count(4); r++) all.add(b.where(r));
        for (int p = 0; p < b.count(1); p++) {
            for (int w = 0; w <= 10; w++) all.add(b.told(p, w));
            for (int w = 0; w <= 4; w++) all.add(b.breach(p, w));
            for (int w = 0; w <= 3; w++) all.add(b.borne(p, w));
            for (int w = 0; w <= 3; w++) all.add(b.parted(p, w));
            for (int w = 0; w <= 3; w++) all.add(b.row(p, 0, w, 2));
            for (int q = 0; q < p; q++) all.add(b.netted(p, q));
            all.add(b.demand(p, 1));
            all.add(b.tells(p, 0));
        }
        for (int a = 1; a < b.count(8); a++) {
            all.add(b.alike(a));
            all.add(b.apart(a, a - 1));
        }
        // What only comes later: the tape's order, grants, who is admitted, and a month of it all.
        all.add(b.order(2, 7));
        all.add(b.tells(0, 3));
        b.months(2);
        for (int p = 0; p < b.count(1); p++) for (int w = 0; w <= 10; w++) all.add(b.told(p, w));
        return all;
    }

    /** The call answers this, and nothing is as if it had not been made. */
    private static void answers(String call, int due, Made made) {
        PaperBoard board = rich();
        Check.is(call, made.answer(board), due);
        same(call, board);
    }

    private static void throwsAndKeeps(String call, Made made) {
        PaperBoard board = rich();
        boolean thrown = false;
        try {
            made.answer(board);
        } catch (RuntimeException e) {
            thrown = Check.isItsOwn(e);
        }
        Check.is(call + " throws", thrown ? 1 : 0, 1);
        same(call, board);
    }

    private static void same(String call, PaperBoard board) {
        if (!picture(board).equals(picture(rich()))) Check.fails(call + " changed something");
    }

    private static void whatIsAnsweredChangesNothing() {
        answers("set of one that is gone", -1, b -> b.set(2, 0, 5));
        answers("steal of a stolen one", -3, b -> b.steal(1));
        answers("find of one in the store", -1, b -> b.find(3));
        answers("find of one with a paper", -1, b -> b.find(0));
        answers("bid in the queue", -1, b -> b.bid(3, 5, 5));
        answers("bid of one that is gone", -1, b -> b.bid(2, 5, 5));
        answers("parted in the queue", 0, b -> b.parted(3, 0));
        answers("months(0)", 2, b -> b.months(0));
        answers("swap with one in the queue", -1, b -> b.swap(0, 3, 5));
        answers("swap with itself", -1, b -> b.swap(0, 0, 5));
        answers("swap of too much", -2, b -> b.swap(0, 1, 100000));
        answers("merge with itself", -1, b -> b.merge(0, 0));
        answers("merge with one that is gone", -1, b -> b.merge(0, 2));
        answers("merge with one in the queue", -1, b -> b.merge(0, 3));
        answers("gain with itself", PaperBoard.NOTHING, b -> b.gain(0, 0));
        answers("gain with one in the queue", PaperBoard.NOTHING, b -> b.gain(3, 0));
        answers("a 9th source", -1, b -> b.source(0, 1, 1));
        answers("appeal of one in the queue", -2, b -> b.appeal(3, 5));
        answers("granted again", -1, b -> b.grant(0, 2));
        answers("best in the queue", PaperBoard.NOTHING, b -> b.best(3, 0));
        answers("no such row", -1, b -> b.correct(0, 2, 5));
        answers("no such row", -1, b -> b.correct(3, 0, 5));
        answers("no such row", PaperBoard.NOTHING, b -> b.row(0, 2, 0, 9));
        answers("what there isn't", PaperBoard.NONE, b -> b.count(12));
    }

    private static void whatIsAskedChangesNothing() {
        Made[] asked = {b -> b.gain(0, 1), b -> b.gain(1, 0), b -> b.best(0, 0), b -> b.best(1, 3), b -> b.parted(0, 3),
            b -> b.parted(1, -1), b -> b.tells(1, 2), b -> b.demand(0, 50), b -> b.borne(0, 3), b -> b.alike(1), b -> b.force(600),
            b -> b.netted(1, 0), b -> b.row(0, 0, 1, 2), b -> b.fault(), b -> b.count(5)};
        for (int i = 0; i < asked.length; i++) {
            PaperBoard board = rich();
            asked[i].answer(board);
            same("question " + i, board);
        }
    }

    private static void whatThrowsChangesNothing() {
        throwsAndKeeps("paper", b -> b.paper(3, 1, 1, 2, 1));
        throwsAndKeeps("paper", b -> b.paper(0, 1, 1, 2, 101));
        throwsAndKeeps("set", b -> b.set(0, 0, 1001));
        throwsAndKeeps("set", b -> b.set(0, 4, 5));
        throwsAndKeeps("set", b -> b.set(4, 0, 5));
        throwsAndKeeps("told", b -> b.told(0, 11));
        throwsAndKeeps("reel", b -> b.reel(2001, 0));
        throwsAndKeeps("reel", b -> b.reel(1, 501));
        throwsAndKeeps("where", b -> b.where(4));
        throwsAndKeeps("steal", b -> b.steal(4));
        throwsAndKeeps("find", b -> b.find(-1));
        throwsAndKeeps("ward", b -> b.ward(1001));
        throwsAndKeeps("loyal", b -> b.loyal(0, 0, 101));
        throwsAndKeeps("loyal", b -> b.loyal(1, 0, 5));
        throwsAndKeeps("loyal", b -> b.loyal(0, 4, 5));
        throwsAndKeeps("demand", b -> b.demand(0, 0));
        throwsAndKeeps("order", b -> b.order(601, 7));
        throwsAndKeeps("order", b -> b.order(0, 21));
        throwsAndKeeps("order", b -> b.order(-1, 7));
        throwsAndKeeps("order", b -> b.order(0, -1));
        throwsAndKeeps("force", b -> b.force(601));
        throwsAndKeeps("tells", b -> b.tells(0, 9));
        throwsAndKeeps("bid", b -> b.bid(0, 0, 5));
        throwsAndKeeps("bid", b -> b.bid(0, 5, 101));
        throwsAndKeeps("parted", b -> b.parted(0, 4));
        throwsAndKeeps("months", b -> b.months(25));
        throwsAndKeeps("months", b -> b.months(-1));
        throwsAndKeeps("swap", b -> b.swap(0, 1, 0));
        throwsAndKeeps("swap", b -> b.swap(0, 4, 5));
        throwsAndKeeps("netted", b -> b.netted(0, 4));
        throwsAndKeeps("merge", b -> b.merge(0, 4));
        throwsAndKeeps("merge", b -> b.merge(4, 0));
        throwsAndKeeps("gain", b -> b.gain(0, 4));
        throwsAndKeeps("breach", b -> b.breach(0, 5));
        throwsAndKeeps("source", b -> b.source(1, 5, 4));
        throwsAndKeeps("borne", b -> b.borne(0, 4));
        throwsAndKeeps("appeal", b -> b.appeal(0, 100001));
        throwsAndKeeps("alike", b -> b.alike(2));
        throwsAndKeeps("apart", b -> b.apart(0, 2));
        throwsAndKeeps("grant", b -> b.grant(1, 1));
        throwsAndKeeps("grant", b -> b.grant(1, 601));
        throwsAndKeeps("best", b -> b.best(0, 4));
        throwsAndKeeps("correct", b -> b.correct(0, 0, 1000001));
        throwsAndKeeps("row", b -> b.row(0, 0, 4, 1));
    }

    /** What is full stays as it is: there is one more of everything than it takes. */
    private static void whatIsFullChangesNothing() {
        Check.words("IllegalStateException: there are 12.", () -> {
            x = new PaperBoard();
            for (int i = 0; i < 12; i++) Boards.plain(x, i);
            Check.noState("a 13th", () -> x.paper(2, 77, 7, 7, 7));
            x.months(1);
            Check.is("admitted", x.count(2), 12);
            x.merge(0, 1);
            Check.noState("a 13th, though one is gone", () -> x.paper(2, 77, 7, 7, 7));
            for (int i = 2; i < 12; i++) Check.is("base", x.told(i, 1), i);
        });
        Check.words("A REEL: its number; -1: there are 80.", () -> {
            x = new PaperBoard();
            for (int i = 0; i < 80; i++) x.reel(1, 0);
            Check.is("an 81st", x.reel(2000, 0), -1);
            Check.is("pool", x.count(5), 80);
            x.steal(0);
            Check.is("found", x.find(0), 1);
            Check.is("the last", x.steal(79), -1);
        });
        Check.words("A WARD: its number; -1: there are 5.", () -> {
            x = new PaperBoard();
            Boards.plain(x, 1);
            for (int i = 0; i < 5; i++) {
                x.ward(100);
                x.loyal(i, 0, 100);
            }
            Check.is("demand", x.demand(0, 1), 5 * 99);
            Check.is("a 6th", x.ward(1000), -1);
            Check.is("demand", x.demand(0, 1), 5 * 99);
        });
        Check.words("A SOURCE: how many the PAPER has; -1: there are 8.", () -> {
            x = new PaperBoard();
            Boards.plain(x, 1);
            Boards.plain(x, 1);
            for (int i = 1; i <= 8; i++) Check.is("source", x.source(0, 5, 6), i);
            Check.is("a 9th", x.source(0, 6, 6), -1);
            Check.is("to", x.borne(0, 1), 6);
            Check.is("from", x.borne(0, 0), 5);
            Check.is("by", x.borne(0, 2), 8);
            Check.is("of another one", x.source(1, 6, 6), 1);
        });
        Check.words("An APPEAL: its number; -1: there are 20; -2: it isn't ADMITTED (the first of these).", () -> {
            x = Boards.admitted(1);
            for (int i = 0; i < 20; i++) x.appeal(0, 5);
            Check.is("a 21st", x.appeal(0, 9), -1);
            x.grant(19, 1);
            x.months(1);
            Check.is("the 20th", x.told(0, 1), 5);
        });
    }

    private static void countsOfAllThatIsFull() {
        Check.words("0 MONTH, 1 PAPERS, 2 ADMITTED, 3 QUEUED, 4 REELS, 5 the POOL, 6 ORDERS, 7 WARDS, 8 APPEALS, 9 how often USED was told anew", () -> {
            x = new PaperBoard();
            for (int i = 0; i < 12; i++) Boards.plain(x, 1);
            Check.is("queued", x.count(3), 12);
            for (int i = 0; i < 10; i++) x.order(0, 0);
            for (int i = 0; i < 25; i++) x.months(24);
            for (int i = 0; i < 80; i++) x.reel(2000, 0);
            for (int i = 0; i < 5; i++) x.ward(1000);
            for (int i = 0; i < 20; i++) x.appeal(0, 1);
            for (int i = 0; i < 60; i++) x.correct(0, 599, 1);
            for (int i = 0; i < 15; i++) x.feed(0, 0, 0, 0, 0);
            int[] due = {600, 12, 12, 0, 80, 160000, 10, 5, 20, 60, 300, 0};
            for (int w = 0; w <= 11; w++) Check.is("count(" + w + ") of all that is full", x.count(w), due[w]);
            Check.is("one more of each", x.reel(1, 0) + x.ward(1) + x.appeal(0, 1) + x.correct(0, 599, 1) + x.feed(0, 0, 0, 0, 0), -6);
            for (int w = 0; w <= 11; w++) Check.is("count(" + w + ") of all that is full", x.count(w), due[w]);
            for (int i = 0; i < 80; i++) x.steal(i);
            Check.is("the pool", x.count(5), 0);
            Check.is("stolen", x.count(11), 80);
            for (int i = 1; i < 12; i++) x.merge(0, i);
            Check.is("papers", x.count(1), 12);
            Check.is("admitted", x.count(2), 1);
        });
    }

    /** As many calls as an object is used for, the last of them as good as the first. */
    private static void fiveHundredAndTwelveCalls() {
        Check.words("An object is used for at most 512 calls after it has been made", () -> {
            x = Boards.withStock(2000); // 3 calls
            Boards.allAreLoyalTo(x, 0); // 3
            Check.order(x, 0, "price  pages" + "*1+0".repeat(66) + ";"); // 15
            int first = x.best(0, 3);
            for (int call = 23; call <= 512; call++) Check.is("call " + call, x.best(0, 3), first);
        });
    }

    public static void main(String[] args) {
        aNewObject();
        Check.words("IndexOutOfBoundsException: no such PAPER (so below)", RefusalsTest::noSuchPaper);
        noSuchReelOrWard();
        Check.words("IndexOutOfBoundsException: no such APPEAL (so below).", RefusalsTest::noSuchAppeal);
        anotherWhat();
        anotherNumber();
        indexAheadOfNumber();
        exceptionAheadOfAnswer();
        Check.words("what it was; -1: it is GONE", RefusalsTest::setOfOneThatIsGone);
        Check.words("A REEL is STOLEN: where it was (as above); -3: it is.", RefusalsTest::whereItWas);
        Check.words("10 USED in the MONTH ahead (of one that is GONE: in its last)", RefusalsTest::usedInItsLastMonth);
        Check.words("The APPEAL that is ALIKE; NONE.", RefusalsTest::nothingIsAlike);
        Check.words("2 the VALUE of price (NONE: none; 0 and 2 within their bounds)", RefusalsTest::noPrice);
        whatOneThatIsGoneMayStill();
        whatIsAnsweredChangesNothing();
        whatIsAskedChangesNothing();
        whatThrowsChangesNothing();
        whatIsFullChangesNothing();
        countsOfAllThatIsFull();
        fiveHundredAndTwelveCalls();
        Check.end("RefusalsTest");
    }
}
