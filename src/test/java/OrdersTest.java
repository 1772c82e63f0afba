/** Promises 12 to 16: the tape, orders, their faults, and what they tell. */
public final class OrdersTest {
    private static PaperBoard x;

    private static void theTape() {
        x = new PaperBoard();
        for (int i = 1; i <= 15; i++) Check.is("feed", x.feed(0x3b3b3b3b, 0, 0, 0, 0), 20 * i);
        Check.is("a 301st byte", x.feed(1, 2, 3, 4, 5), PaperBoard.NONE);
        Check.is("bytes", x.count(10), 300);
        Check.noNumber("month -1", () -> x.order(-1, 0));
        Check.noNumber("month 601", () -> x.order(601, 0));
        Check.noNumber("n -1", () -> x.order(0, -1));
        Check.noNumber("n 301", () -> x.order(0, 301));
        Check.is("bytes stay", x.count(10), 300);
        Check.is("order", x.order(0, 300), -9);
        Check.is("bytes are gone", x.count(10), 0);
        Check.is("feed", x.feed(0x6e657720, 0x373b2020, 0x20202020, 0x20202020, 0x20202020), 20);
        Check.is("the first bytes alone", x.order(600, 6), 0);
        Check.is("bytes are gone", x.count(10), 0);
        Check.is("force", x.force(600), 0);
    }

    private static void sound() {
        Check.sound("");
        Check.sound("   ");
        Check.sound("part 0;");
        Check.sound("part base*copies/pages+price-kind*month+stock-used;");
        Check.sound("  part  base  *  2  ;  pages  daily  2  ;  ");
        Check.sound("part10;fine10;");
        Check.sound("part(1);part min(1,2);part max((1),2);part if(1<2,3,4);part if(1>2,3,4);part if ( 1 = 2 , 3 , 4 );");
        Check.sound("part 9999;fine 0009999;pages weekly 064;pages party 2;swap 0;swap 100;waste 0;waste 100;least 9999;new 9999;");
        Check.sound("fine 9999;least 0;new 0;fine 0;part 0;");
        Check.sound("rest most;rest keep;way base;way points;way alike;way bids;price 0;");
        Check.sound("part ((((((((1))))))))+((((((((1))))))));");
        Check.sound("new 1;new 1;new 1;new 1;new 1;new 1;new 1;new 1;new 1;new 1;new 1;new 1; ");
    }

    private static void whatCantStandThere() {
        Check.faulty("part", 1, 4);
        Check.faulty("part   ", 1, 7);
        Check.faulty(";", 1, 0);
        Check.faulty("  ;", 1, 2);
        Check.faulty("new 1;;", 1, 6);
        Check.faulty("partbase;", 1, 0);
        Check.faulty("partz 1;", 1, 0);
        Check.faulty("zpart 1;", 1, 0);
        Check.faulty("parta 1;", 1, 0);
        Check.faulty("part basecopies;", 1, 5);
        Check.faulty("part most;", 1, 5);
        Check.faulty("part 1 2;", 1, 7);
        Check.faulty("part 1", 1, 6);
        Check.faulty("part 1  ", 1, 8);
        Check.faulty("part +1;", 1, 5);
        Check.faulty("part 1+;", 1, 7);
        Check.faulty("part -1;", 1, 5);
        Check.faulty("part ();", 1, 6);
        Check.faulty("part (1;", 1, 7);
        Check.faulty("part 1);", 1, 6);
        Check.faulty("part min 1;", 1, 9);
        Check.faulty("part min(1,2,3);", 1, 12);
        Check.faulty("part if(1<2,3);", 1, 13);
        Check.faulty("part if(1+2,3,4);", 1, 11);
        Check.faulty("part if(1<=2,3,4);", 1, 10);
        Check.faulty("part 1<2;", 1, 6);
        Check.faulty("pages 5;", 1, 6);
        Check.faulty("pages base 5;", 1, 6);
        Check.faulty("pages daily base;", 1, 12);
        Check.faulty("fine base;", 1, 5);
        Check.faulty("fine 1+1;", 1, 6);
        Check.faulty("rest base;", 1, 5);
        Check.faulty("rest 1;", 1, 5);
        Check.faulty("way most;", 1, 4);
        Check.faulty("way;", 1, 3);
        Check.faulty("Part 1;", 1, 0);
        Check.faulty("part\t1;", 1, 4);
        Check.faulty("part 1;\n", 1, 7);
        Check.faulty("part 1;\u00e9", 1, 7);
        Check.faulty("base 1;", 1, 0);
        Check.faulty("7;", 1, 0);
    }

    private static void numbersThatAreNoneSuch() {
        Check.faulty("part 10000;", 2, 5);
        Check.faulty("part 1+  10000x", 2, 9);
        Check.faulty("part 4294967296;", 2, 5);
        Check.faulty("part 42949672961;", 2, 5);
        Check.faulty("fine 10000;", 2, 5);
        Check.faulty("new 99999999999999999999;", 2, 4);
        Check.faulty("least 10000;", 2, 6);
        Check.faulty("swap 101;", 2, 5);
        Check.faulty("waste 101;", 2, 6);
        Check.faulty("pages daily 1;", 2, 12);
        Check.faulty("pages weekly 65;", 2, 13);
        Check.faulty("pages party 0;", 2, 12);
    }

    private static void tooMany() {
        String twelve = "new 1;new 1;new 1;new 1;new 1;new 1;new 1;new 1;new 1;new 1;new 1;new 1;";
        Check.faulty(twelve + "fine", 3, 72);
        Check.faulty(twelve + "  fine 1;", 3, 74);
        Check.faulty(twelve + "fined 1;", 1, 72);
        Check.faulty(twelve + ";", 1, 72);
        Check.faulty("part (((((((((1)))))))));", 3, 13);
        Check.faulty("part min(max(if(((((( (1", 3, 22);
        Check.faulty("part ((((((((1))))))))+(((((((( min(1", 3, 35);
        Check.faulty("part ((((((((1(", 1, 14);
        String seven = "part (((((((";
        for (String eighth : new String[] {"(", "min(", "min(1,", "max(", "max(1,", "if(", "if(1<", "if(1<2,", "if(1<2,3,"}) {
            Check.faulty(seven + eighth + "(1", 3, 12 + eighth.length());
            Check.faulty(seven + eighth + "min(1", 3, 15 + eighth.length());
            Check.faulty(seven.substring(0, 11) + eighth + "(1;", 1, 13 + eighth.length());
        }
        Check.faulty("part ((((((((min 1", 1, 17);
    }

    private static void theFaultOfTheLatest() {
        x = new PaperBoard();
        Check.order(x, 0, "new x;");
        Check.is("fault", x.fault(), 4);
        Check.noNumber("n 1", () -> x.order(0, 1));
        Check.is("order", x.order(0, 0), 0);
        Check.is("fault", x.fault(), PaperBoard.NONE);
    }

    private static void tenOrders() {
        x = new PaperBoard();
        for (int i = 0; i < 10; i++) Check.is("order", Check.order(x, i, "new 1;"), i);
        Check.is("an 11th", Check.order(x, 0, "new 1;"), -1);
        Check.is("its fault", x.fault(), PaperBoard.NONE);
        Check.is("its bytes", x.count(10), 0);
        Check.is("orders", x.count(6), 10);
        tenOrdersAndNoRoomForFaults();
    }

    private static void tenOrdersAndNoRoomForFaults() {
        for (String text : new String[] {"", "x", "new 1", "new 10000;", "part (((((((((1)))))))));", ";"}) {
            Check.is("an 11th: " + text, Check.order(x, 3, text), -1);
            Check.is("its fault: " + text, x.fault(), PaperBoard.NONE);
            Check.is("its bytes: " + text, x.count(10), 0);
        }
        Check.tape(x, "new;");
        Check.noNumber("month 601", () -> x.order(601, 4));
        Check.noNumber("more than the tape", () -> x.order(0, 21));
        Check.is("the bytes that stay", x.count(10), 20);
        Check.is("an 11th", x.order(0, 4), -1);
        Check.is("the bytes", x.count(10), 0);
        Check.is("orders", x.count(6), 10);
        Check.is("the latest one in force", x.force(600), 9);
        x = new PaperBoard();
        for (int i = 0; i < 9; i++) Check.order(x, 0, "");
        Check.is("a fault of nine", Check.order(x, 0, "new;"), -9);
        Check.is("its place", x.fault(), 3);
        Check.is("a tenth", Check.order(x, 0, ""), 9);
        Check.is("its fault", x.fault(), PaperBoard.NONE);
        Check.is("an 11th", Check.order(x, 0, "new;"), -1);
        Check.is("its fault", x.fault(), PaperBoard.NONE);
    }

    private static void inForce() {
        x = new PaperBoard();
        Check.order(x, 5, "new 1;");
        Check.order(x, 3, "new 2;");
        Check.is("the later month, not the later number", x.force(5), 0);
        Check.is("the later month, not the later number", x.force(4), 1);
        Check.order(x, 5, "new 3;");
        Check.order(x, 600, "new 4;");
        int[][] due = {{0, -1}, {2, -1}, {3, 1}, {4, 1}, {5, 2}, {6, 2}, {599, 2}, {600, 3}};
        for (int[] d : due) Check.is("force(" + d[0] + ")", x.force(d[0]), d[1]);
        Check.noNumber("force(-1)", () -> x.force(-1));
        Check.noNumber("force(601)", () -> x.force(601));
        Check.order(x, 0, "new 5;");
        Check.is("force(0)", x.force(0), 4);
        Check.is("force(3)", x.force(3), 1);
    }

    private static void told(String call, int paper, int... due) {
        for (int w = 0; w < due.length; w++) Check.is(call + " tells(" + paper + ", " + w + ")", x.tells(paper, w), due[w]);
    }

    private static void whatIsToldWithout() {
        x = new PaperBoard();
        x.paper(0, 700, 20, 30, 40);
        told("without one", 0, 700, 64, -1, 10, 12, 100, 0, 0, 0);
        Check.order(x, 1, "fine 1;");
        told("ahead of one", 0, 700, 64, -1, 10, 12, 100, 0, 0, 0);
        Check.order(x, 0, "");
        told("by an empty one", 0, 700, 64, -1, 10, 12, 100, 0, 0, 0);
        Check.noNumber("tells 9", () -> x.tells(0, 9));
        Check.noNumber("tells -1", () -> x.tells(0, -1));
        Check.noIndex("tells of 1", () -> x.tells(1, 9));
        Check.noIndex("tells of -1", () -> x.tells(-1, 0));
    }

    private static void theLastOneCounts() {
        x = new PaperBoard();
        x.paper(0, 700, 20, 30, 40);
        x.paper(1, 701, 21, 31, 41);
        x.paper(2, 702, 22, 32, 42);
        Check.order(x, 0, "part 1;part base+1;pages daily 9;pages party 7;pages daily 8;price 3;price copies;rest keep;way bids;");
        told("the last", 0, 701, 8, 20, 10, 12, 100, 0, 0, 3);
        told("the last", 1, 702, 64, 21, 10, 12, 100, 0, 0, 3);
        told("the last", 2, 703, 7, 22, 10, 12, 100, 0, 0, 3);
        Check.order(x, 0, "fine 1;fine 2;new 3;new 4;swap 5;swap 6;waste 7;waste 8;least 9;least 10;way base;way alike;");
        told("of another one", 0, 700, 64, -1, 2, 4, 6, 8, 10, 2);
        Check.order(x, 0, "way points;");
        told("of a third", 0, 700, 64, -1, 10, 12, 100, 0, 0, 1);
    }

    private static void valueIs(String formula, int due) {
        x = new PaperBoard();
        x.paper(1, 700, 20, 30, 40);
        Check.order(x, 0, "part " + formula + ";");
        Check.is("value of " + formula, x.tells(0, 0), due);
    }

    private static void values() {
        valueIs("2+3*4", 14);
        valueIs("(2+3)*4", 20);
        valueIs("20-3-4", 13);
        valueIs("20-3+4", 21);
        valueIs("100/7/2", 7);
        valueIs("7/2*2", 6);
        valueIs("2*7/2", 7);
        valueIs("7/0", 0);
        valueIs("5+7/(3-3)", 5);
        valueIs("min(3,2)+max(3,2)*10", 32);
        valueIs("if(1<2,10,20)", 10);
        valueIs("if(2<2,10,20)", 20);
        valueIs("if(2>1,10,20)", 10);
        valueIs("if(2>2,10,20)", 20);
        valueIs("if(2=2,10,20)", 10);
        valueIs("if(1=2,10,20)", 20);
        valueIs("if(min(1,2)+1=max(2,1),if(1>2,1,2)*3,4)", 6);
        valueIs("10+(0-7)/2", 7);
        valueIs("100-(0-7)/2", 103);
        valueIs("0007", 7);
        valueIs("base", 700);
        valueIs("copies", 20);
        valueIs("pages", 30);
        valueIs("price", 40);
        valueIs("kind", 1);
        valueIs("month", 0);
        valueIs("stock", 0);
        valueIs("used", 0);
        valueIs("0-1", 0);
        valueIs("1000*1000-1", 999999);
        valueIs("1000*1000", 1000000);
        valueIs("1001*1000", 1000000);
    }

    private static void valuesWrap() {
        valueIs("256*256*256*256+5", 5);
        valueIs("256*256*256*127+256*256*256", 0);
        // The least number by -1 is itself; with the greatest and one more it is 0.
        valueIs("(256*256*256*128)/(0-1)+256*256*256*127+256*256*256+7", 7);
        valueIs("(0-256*256*256*128-1)/9999", 214769);
    }

    /** Eight brackets with as much as can wait ahead of the innermost value. */
    private static void deepValues() {
        String formula = "1+2*" + "if(0=1,5,1+2*".repeat(8) + "3" + ")".repeat(8);
        int due = 3;
        for (int i = 0; i < 9; i++) due = 1 + 2 * due;
        valueIs(formula, due);
    }

    private static void valuesOfNow() {
        x = new PaperBoard();
        x.paper(0, 700, 10, 10, 40);
        x.reel(100, 0);
        x.months(1);
        x.months(1);
        x.months(1);
        Check.order(x, 0, "part month*1000+used*100+stock;price stock-9;");
        // three months use 30 each, of 100
        Check.is("month, used, stock", x.tells(0, 0), 3000 + 3000 + 10);
        Check.is("price", x.tells(0, 2), 1);
        x.months(1);
        Check.is("month, used, stock", x.tells(0, 0), 4000 + 900 + 1);
        Check.is("price is 1 at least", x.tells(0, 2), 1);
        Check.order(x, 0, "price 101;");
        Check.is("price is 100 at most", x.tells(0, 2), 100);
        Check.order(x, 0, "price 100;");
        Check.is("price", x.tells(0, 2), 100);
    }

    public static void main(String[] args) {
        theTape();
        sound();
        whatCantStandThere();
        numbersThatAreNoneSuch();
        tooMany();
        theFaultOfTheLatest();
        tenOrders();
        inForce();
        whatIsToldWithout();
        theLastOneCounts();
        values();
        valuesWrap();
        deepValues();
        valuesOfNow();
        Check.end("OrdersTest");
    }
}
