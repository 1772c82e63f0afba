/** Promises 9 to 11: wards, who is loyal, and demand. */
public final class WardsTest {
    private static PaperBoard x;

    private static void wards() {
        x = new PaperBoard();
        Check.noNumber("readers -1", () -> x.ward(-1));
        Check.noNumber("readers 1001", () -> x.ward(1001));
        Check.is("wards", x.count(7), 0);
        Check.is("ward", x.ward(0), 0);
        Check.is("ward", x.ward(1000), 1);
        for (int i = 2; i < 5; i++) Check.is("ward", x.ward(10), i);
        Check.is("a 6th", x.ward(10), -1);
        Check.noNumber("a 6th that is none", () -> x.ward(-5));
        Check.is("wards", x.count(7), 5);
    }

    private static void loyal() {
        x = new PaperBoard();
        x.ward(100);
        x.paper(0, 0, 0, 2, 1);
        x.paper(0, 0, 0, 2, 1);
        Check.noIndex("ward 1", () -> x.loyal(1, 0, 5));
        Check.noIndex("ward -1", () -> x.loyal(-1, 0, 5));
        Check.noIndex("paper 2", () -> x.loyal(0, 2, 5));
        Check.noIndex("paper -1", () -> x.loyal(0, -1, 101));
        Check.noIndex("ward 1, and no part", () -> x.loyal(1, 0, 101));
        Check.noNumber("part -1", () -> x.loyal(0, 0, -1));
        Check.noNumber("part 101", () -> x.loyal(0, 0, 101));
        Check.is("loyal", x.loyal(0, 0, 100), 0);
        Check.is("together above 100", x.loyal(0, 1, 100), 0);
        Check.is("loyal", x.loyal(0, 0, 0), 100);
        Check.is("loyal", x.loyal(0, 1, 7), 100);
        Check.is("loyal", x.loyal(0, 0, 1), 0);
    }

    private static void demand() {
        x = new PaperBoard();
        x.paper(0, 0, 0, 2, 1);
        Check.is("without wards", x.demand(0, 1), 0);
        x.ward(333);
        x.ward(777);
        x.loyal(0, 0, 31);
        x.loyal(1, 0, 17);
        // 333*31*73 = 753579: 75; 777*17*73 = 964257: 96
        Check.is("demand at 27", x.demand(0, 27), 75 + 96);
        // 333*31*50 = 516150: 51; 777*17*50 = 660450: 66; together they would be 117.66
        Check.is("demand at 50", x.demand(0, 50), 117);
        // 333*31*99 = 1021977: 102; 777*17*99 = 1307691: 130; together they would be 232.97
        Check.is("demand at 1", x.demand(0, 1), 232);
        // 333*31*20 = 206460: 20; 777*17*20 = 264180: 26; together they would be 47.06
        Check.is("demand at 80 is cut for each ward", x.demand(0, 80), 46);
        Check.is("demand at 100", x.demand(0, 100), 0);
        Check.noNumber("price 0", () -> x.demand(0, 0));
        Check.noNumber("price 101", () -> x.demand(0, 101));
        Check.noIndex("paper 1", () -> x.demand(1, 0));
        Check.noIndex("paper -1", () -> x.demand(-1, 5));
    }

    public static void main(String[] args) {
        wards();
        loyal();
        demand();
        Check.end("WardsTest");
    }
}
