/** Promises 27 to 30: appeals, which are alike, and what is granted. */
public final class AppealsTest {
    private static PaperBoard x;

    private static void appeals() {
        x = new PaperBoard();
        x.paper(0, 1, 0, 2, 1);
        Check.noIndex("paper 1", () -> x.appeal(1, -1));
        Check.noIndex("paper -1", () -> x.appeal(-1, 1));
        Check.noNumber("base -1", () -> x.appeal(0, -1));
        Check.noNumber("base 100001", () -> x.appeal(0, 100001));
        Check.is("it waits", x.appeal(0, 5), -2);
        x.months(1);
        Check.order(x, 1, "new 0;");
        x.paper(0, 1, 0, 2, 1);
        for (int i = 0; i < 20; i++) Check.is("appeal", x.appeal(0, i % 2 * 100000), i);
        Check.is("a 21st", x.appeal(0, 5), -1);
        Check.is("a 21st of one that waits", x.appeal(1, 5), -1);
        Check.noNumber("a 21st that is none", () -> x.appeal(1, -5));
        Check.is("appeals", x.count(8), 20);
        Check.is("base stays", x.told(0, 1), 1);
    }

    private static void howFarApart() {
        x = new PaperBoard();
        x.paper(0, 500, 10, 2, 1);
        x.paper(0, 450, 13, 2, 1);
        x.paper(1, 500, 10, 2, 1);
        x.months(1);
        x.appeal(0, 9);
        x.appeal(1, 99999);
        x.appeal(2, 9);
        x.set(0, 0, 110);
        x.appeal(0, 9);
        Check.is("base and copies", x.apart(0, 1), 50 + 300);
        Check.is("the other way round", x.apart(1, 0), 350);
        Check.is("another kind", x.apart(0, 2), 10000);
        Check.is("all", x.apart(1, 2), 10350);
        Check.is("copies then", x.apart(0, 3), 10000);
        Check.is("with itself", x.apart(3, 3), 0);
        x.merge(0, 1);
        Check.is("as they were when appealed", x.apart(0, 1), 350);
        Check.noIndex("appeal 4", () -> x.apart(4, 0));
        Check.noIndex("other 4", () -> x.apart(0, 4));
        Check.noIndex("appeal -1", () -> x.apart(-1, 0));
        Check.noIndex("other -1", () -> x.apart(0, -1));
    }

    private static void whichAreAlike() {
        x = new PaperBoard();
        x.paper(0, 500, 10, 2, 1);
        x.paper(0, 600, 10, 2, 1);
        x.paper(0, 400, 10, 2, 1);
        x.paper(0, 501, 10, 2, 1);
        x.months(1);
        x.appeal(1, 9);
        x.appeal(2, 9);
        x.appeal(0, 9);
        x.appeal(3, 9);
        x.appeal(0, 9);
        Check.is("none is granted", x.alike(2), -1);
        x.grant(3, 600);
        Check.is("no earlier one is granted", x.alike(2), -1);
        Check.is("not the one itself", x.alike(3), -1);
        x.grant(0, 5);
        Check.is("granted from later on", x.alike(2), 0);
        x.grant(1, 1);
        Check.is("of alike ones the latest", x.alike(2), 1);
        Check.is("the least far", x.alike(4), 3);
        Check.is("of the first", x.alike(0), -1);
        Check.is("the least far", x.alike(3), 0);
        x.grant(2, 1);
        Check.is("a nearer one", x.alike(3), 2);
        Check.noIndex("appeal 5", () -> x.alike(5));
        Check.noIndex("appeal -1", () -> x.alike(-1));
    }

    private static void whatIsGranted() {
        x = new PaperBoard();
        x.paper(0, 500, 0, 2, 1);
        x.paper(0, 600, 0, 2, 1);
        x.paper(0, 700, 0, 2, 1);
        x.months(2);
        for (int p = 0; p < 3; p++) x.appeal(p, 1000 + p);
        x.appeal(0, 2000);
        Check.noIndex("appeal 4", () -> x.grant(4, 0));
        Check.noIndex("appeal -1", () -> x.grant(-1, 5));
        Check.noNumber("month 1", () -> x.grant(0, 1));
        Check.noNumber("month 601", () -> x.grant(0, 601));
        Check.is("from this month on", x.grant(0, 2), 1);
        Check.is("again", x.grant(0, 3), -1);
        Check.noNumber("again, ahead of this one", () -> x.grant(0, 1));
        Check.is("from a later one on", x.grant(1, 4), 1);
        Check.is("of one that is gone then", x.grant(2, 3), 1);
        Check.is("of the same one", x.grant(3, 600), 1);
        Check.is("not yet", x.told(0, 1), 500);
        x.reel(280, 0);
        x.months(1);
        Check.is("base", x.told(0, 1), 1000);
        Check.is("ahead of the parting", x.row(0, 2, 0, 3), 122); // 1000 of 2300: 121.7
        Check.is("base", x.told(1, 1), 600);
        x.merge(1, 2);
        Check.is("base", x.told(1, 1), 1300);
        x.months(1);
        Check.is("it is gone", x.told(2, 1), 0);
        Check.is("not the one that it is gone to", x.told(1, 1), 1300);
        x.months(1);
        Check.is("what was asked", x.told(1, 1), 1001);
        x.months(24);
        Check.is("what was asked", x.told(0, 1), 1000);
    }

    public static void main(String[] args) {
        appeals();
        howFarApart();
        whichAreAlike();
        whatIsGranted();
        Check.end("AppealsTest");
    }
}
