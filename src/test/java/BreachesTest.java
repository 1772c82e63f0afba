/** Promise 24: breaches, what is paid for them, and by which clause. */
public final class BreachesTest {
    private static PaperBoard x;

    private static void breach(String call, int paper, int... due) {
        for (int w = 0; w < due.length; w++) Check.is(call + " breach(" + paper + ", " + w + ")", x.breach(paper, w), due[w]);
    }

    private static void coins(String call, int paper, int due) {
        Check.is(call + " coins(" + paper + ")", x.told(paper, 6), due);
    }

    private static void none() {
        x = new PaperBoard();
        x.paper(0, 100, 10, 64, 20);
        breach("new", 0, 0, -1, 0, -1, -1);
        x.reel(1000, 0);
        x.months(1);
        breach("without an order", 0, 0, -1, 0, -1, -1);
        Check.order(x, 0, "pages weekly 2;price 20;");
        x.months(1);
        breach("as it is told", 0, 0, -1, 0, -1, -1);
        Check.noNumber("breach 5", () -> x.breach(0, 5));
        Check.noNumber("breach -1", () -> x.breach(0, -1));
        Check.noIndex("paper 1", () -> x.breach(1, 9));
        Check.noIndex("paper -1", () -> x.breach(-1, 0));
    }

    private static void oneAndBoth() {
        x = new PaperBoard();
        x.paper(0, 100, 10, 10, 20);
        x.paper(1, 100, 10, 10, 21);
        x.paper(2, 100, 10, 10, 22);
        x.reel(1000, 0);
        x.reel(1000, 0);
        x.reel(1000, 0);
        Check.order(x, 0, "new 9;");
        Check.order(x, 1, "pages daily 2;pages weekly 9;fine 3;pages daily 7;price 1;price if(kind=1,21,5);");
        Check.order(x, 2, "price 20;fine 0;");
        x.months(2);
        breach("both", 0, 2, 1, 3, 1, 3);
        breach("pages", 1, 1, 1, 1, 1, 1);
        breach("price", 2, 1, 1, 2, 1, 5);
        coins("both", 0, -12);
        coins("pages", 1, -3);
        coins("price", 2, -3);
        x.months(1);
        breach("as it is told", 0, 2, 1, 3, 1, 3);
        breach("a fine of 0", 1, 2, 2, 2, 2, 0);
        breach("a fine of 0", 2, 2, 2, 2, 2, 0);
        coins("a fine of 0", 1, -3);
        x.months(3);
        breach("each month", 1, 5, 5, 2, 2, 0);
    }

    private static void onlyWhoPrinted() {
        x = new PaperBoard();
        x.paper(0, 100, 0, 10, 20);
        x.paper(0, 100, 10, 4, 20);
        x.paper(0, 100, 10, 2, 20);
        x.paper(0, 100, 10, 10, 20);
        Check.order(x, 0, "pages daily 3;price 1;new 3;");
        Check.order(x, 1, "pages daily 3;price 1;new 0;");
        x.months(2);
        breach("no copies", 0, 0, -1, 0, -1, -1);
        breach("no stock", 1, 0, -1, 0, -1, -1);
        // One hundred of two pages takes nothing, and is printed.
        breach("what it printed was cut to no kilogram", 2, 2, 1, 2, 1, 1);
        coins("what it printed was cut to no kilogram", 2, -20);
        breach("in the queue", 3, 0, -1, 0, -1, -1);
    }

    /** The price goes by the month that goes by, by the stock behind the printing, and by what was used ahead. */
    private static void whatThePriceGoesBy() {
        x = new PaperBoard();
        x.paper(0, 100, 10, 10, 70);
        x.reel(100, 0);
        // 30 are used, 70 are left.
        Check.order(x, 0, "price stock;");
        x.months(1);
        breach("stock behind the printing", 0, 0, -1, 0, -1, -1);
        Check.order(x, 1, "price month;");
        x.set(0, 2, 1);
        x.months(1);
        breach("this month", 0, 0, -1, 0, -1, -1);
        Check.order(x, 2, "price used;");
        x.set(0, 0, 5);
        x.set(0, 2, 30);
        // 15 are used now, 30 were in the month ahead.
        x.months(1);
        breach("used in the month ahead", 0, 0, -1, 0, -1, -1);
        x.months(1);
        breach("used in the month ahead", 0, 1, 3, 2, 2, 0);
        x.set(0, 2, 15);
        x.months(1);
        breach("used in the month ahead", 0, 1, 3, 2, 2, 0);
    }

    private static void justAsManyPagesAreNoBreach() {
        x = new PaperBoard();
        x.paper(0, 100, 10, 10, 20);
        x.paper(0, 100, 10, 11, 20);
        x.reel(1000, 0);
        x.reel(1000, 0);
        Check.order(x, 0, "pages daily 10;price 21;fine 5;");
        x.months(1);
        breach("just as many", 0, 1, 0, 2, 0, 1);
        breach("one more", 1, 2, 0, 3, 0, 0);
        coins("just as many", 0, -5);
        coins("one more", 1, -10);
    }

    private static void thePriceIsBounded() {
        x = new PaperBoard();
        x.paper(0, 100, 10, 10, 1);
        x.paper(0, 100, 10, 10, 100);
        x.reel(100, 0);
        x.reel(100, 0);
        Check.order(x, 0, "price if(price=1,0,101);");
        x.months(1);
        breach("1 at least", 0, 0, -1, 0, -1, -1);
        breach("100 at most", 1, 0, -1, 0, -1, -1);
    }

    public static void main(String[] args) {
        none();
        oneAndBoth();
        onlyWhoPrinted();
        whatThePriceGoesBy();
        justAsManyPagesAreNoBreach();
        thePriceIsBounded();
        Check.end("BreachesTest");
    }
}
