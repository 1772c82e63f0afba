/** Promises 32 and 33: rows of the months, and what is told of them anew. */
public final class RowsTest {
    private static PaperBoard x;

    private static void rows(String call, int paper, int month, int known, int... due) {
        for (int w = 0; w < due.length; w++) {
            Check.is(call + " row(" + paper + ", " + month + ", " + w + ", " + known + ")", x.row(paper, month, w, known), due[w]);
        }
    }

    private static final int NO = PaperBoard.NOTHING;

    private static void rowsOfMonths() {
        x = new PaperBoard();
        x.ward(1000);
        x.paper(0, 300, 10, 10, 20);
        x.paper(0, 100, 10, 10, 20);
        x.loyal(0, 0, 1);
        x.reel(100, 0);
        Check.order(x, 0, "new 1;waste 100;");
        x.months(1);
        // Parted 100, used 30, 1 comes back; 8 of 10 hundreds are sold at 20.
        rows("the first month", 0, 0, 1, 100, 30, 71, 160);
        rows("one that waits", 1, 0, 1, NO, NO, NO, NO);
        rows("not known yet", 0, 0, 0, NO, NO, NO, NO);
        rows("not known yet", 0, 0, -5, NO, NO, NO, NO);
        rows("known at any time behind", 0, 0, Integer.MAX_VALUE, 100, 30, 71, 160);
        rows("a month that did not go by", 0, 1, 2, NO, NO, NO, NO);
        rows("a month below 0", 0, -1, 2, NO, NO, NO, NO);
        rows("a month above 600", 0, 601, 1000, NO, NO, NO, NO);
        rows("a month above all", 0, Integer.MAX_VALUE, Integer.MAX_VALUE, NO, NO, NO, NO);
        rows("a month below all", 0, Integer.MIN_VALUE, 0, NO, NO, NO, NO);
        x.months(1);
        x.merge(0, 1);
        x.months(1);
        rows("the second month", 0, 1, 2, 0, 30, 42, 320);
        rows("one that was admitted then", 1, 1, 2, 0, 0, 0, 0);
        rows("one that is gone", 1, 2, 3, NO, NO, NO, NO);
        rows("the first month still", 0, 0, 3, 100, 30, 71, 160);
        Check.noNumber("what 4", () -> x.row(0, 0, 4, 1));
        Check.noNumber("what -1", () -> x.row(0, 0, -1, 1));
        Check.noNumber("what 4 of no row", () -> x.row(0, 99, 4, 1));
        Check.noIndex("paper 2", () -> x.row(2, 0, 9, 1));
        Check.noIndex("paper -1", () -> x.row(-1, 0, 0, 1));
    }

    private static void toldAnew() {
        x = new PaperBoard();
        x.paper(0, 300, 10, 10, 20);
        x.paper(0, 300, 0, 10, 20);
        x.reel(100, 0);
        x.months(2);
        Check.noIndex("paper 2", () -> x.correct(2, 0, -1));
        Check.noIndex("paper -1", () -> x.correct(-1, 0, 1));
        Check.noNumber("used -1", () -> x.correct(0, 0, -1));
        Check.noNumber("used 1000001", () -> x.correct(0, 0, 1000001));
        Check.noNumber("used -1 of no row", () -> x.correct(0, 9, -1));
        Check.is("no such row", x.correct(0, 2, 5), -1);
        Check.is("no such row", x.correct(0, -1, 5), -1);
        Check.is("no such row", x.correct(0, Integer.MAX_VALUE, 5), -1);
        Check.is("told anew", x.count(9), 0);
        Check.is("correct", x.correct(0, 0, 1000000), 1);
        Check.is("told anew", x.count(9), 1);
        rows("behind the month itself it is not known yet", 0, 0, 1, 50, 30, 70, 0);
        rows("in the month in which it is told", 0, 0, 2, 50, 1000000, 70, 0);
        rows("another month", 0, 1, 2, 0, 30, 40, 0);
        rows("another paper", 1, 0, 2, 50, 0, 0, 0);
        Check.is("told(0, 10) stays", x.told(0, 10), 30);
        Check.is("told(0, 7) stays", x.told(0, 7), 40);
        Check.is("correct", x.correct(0, 0, 7), 1);
        rows("the last of one month", 0, 0, 2, 50, 7, 70, 0);
        x.months(2);
        Check.is("correct", x.correct(0, 0, 0), 1);
        rows("as known in a month", 0, 0, 1, 50, 30, 70, 0);
        rows("as known in a month", 0, 0, 3, 50, 7, 70, 0);
        rows("as known in a month", 0, 0, 4, 50, 0, 70, 0);
        rows("as known later", 0, 0, 600, 50, 0, 70, 0);
    }

    private static void ofTheRowItself() {
        x = new PaperBoard();
        x.paper(0, 300, 0, 10, 20);
        x.paper(0, 300, 0, 10, 20);
        x.months(3);
        x.correct(1, 2, 12);
        x.correct(0, 1, 1);
        x.correct(1, 1, 11);
        int[][] due = {{0, 1, 0}, {0, 11, 12}};
        for (int p = 0; p < 2; p++) {
            for (int m = 0; m < 3; m++) Check.is("used of " + p + " in " + m, x.row(p, m, 1, 3), due[p][m]);
        }
    }

    /** What is used by the value of an order is what was used, not what is told anew. */
    private static void nothingElseChanges() {
        x = new PaperBoard();
        x.paper(0, 300, 10, 10, 20);
        x.reel(100, 0);
        x.months(1);
        Check.order(x, 0, "part used;");
        x.correct(0, 0, 500);
        Check.is("used", x.tells(0, 0), 30);
    }

    private static void sixtyTimes() {
        x = new PaperBoard();
        x.paper(0, 300, 10, 10, 20);
        x.months(1);
        for (int i = 1; i <= 60; i++) Check.is("correct", x.correct(0, 0, i), 1);
        Check.is("a 61st", x.correct(0, 0, 61), -2);
        Check.is("a 61st of no row", x.correct(0, 1, 61), -1);
        Check.noNumber("a 61st that is none", () -> x.correct(0, 0, -1));
        Check.is("told anew", x.count(9), 60);
        Check.is("used", x.row(0, 0, 1, 1), 60);
    }

    public static void main(String[] args) {
        rowsOfMonths();
        toldAnew();
        ofTheRowItself();
        nothingElseChanges();
        sixtyTimes();
        Check.end("RowsTest");
    }
}
