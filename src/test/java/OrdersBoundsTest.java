/** The boundaries that the document names for orders: their texts, their faults, what is in force, and values. */
public final class OrdersBoundsTest {
    private static final String TWELVE = "new 1;".repeat(12);
    private static PaperBoard x;

    /** What an order of this text tells of a paper, daily, of base 700, 20 hundreds of 30 pages at 40. */
    private static void tells(String text, int what, int due) {
        x = new PaperBoard();
        x.paper(0, 700, 20, 30, 40);
        Check.is("order of \"" + text + "\"", Check.order(x, 0, text), 0);
        Check.is("tells(0, " + what + ") by \"" + text + "\"", x.tells(0, what), due);
    }

    private static void howManyAndHowLong() {
        Check.words("ORDERS, numbered from 0 on, 10 at most", () -> {
            x = new PaperBoard();
            for (int i = 0; i < 10; i++) Check.is("order", Check.order(x, 600 - i, "fine 1;"), i);
            Check.is("an 11th", Check.order(x, 0, "fine 1;"), -1);
            Check.is("orders", x.count(6), 10);
            Check.is("no order of the 11th", x.force(590), -1);
            Check.is("the 10th", x.force(591), 9);
        });
        Check.words("texts of up to 300 bytes", () -> {
            String longest = "part  1" + "+1".repeat(146) + ";";
            Check.is("length", longest.length(), 300);
            tells(longest, 0, 147);
            Check.faulty(longest.substring(0, 299) + ")", 1, 299);
            Check.faulty(longest.substring(0, 299) + "1", 1, 300);
            Check.faulty(" ".repeat(299) + "z", 1, 299);
            Check.sound(" ".repeat(300));
            tells("part 1" + "*1".repeat(146) + "; ", 0, 1);
            tells("part " + "min(1,".repeat(8) + "3" + "*1".repeat(118) + ")".repeat(8) + ";", 0, 1);
        });
        Check.words("{ CLAUSE \";\" }", () -> {
            Check.sound("");
            Check.sound("fine 1;");
            Check.faulty("fine 1", 1, 6);
            Check.faulty(";", 1, 0);
            Check.faulty("fine 1;;", 1, 7);
        });
        Check.words("The first n bytes of the TAPE (empty then)", OrdersBoundsTest::theFirstBytesAlone);
    }

    private static void theFirstBytesAlone() {
        int[][] due = {{0, 0, -1}, {1, -9, 0}, {2, -9, 0}, {3, -9, 3}, {4, -9, 4}, {5, -9, 5}, {6, -9, 6}, {7, 0, -1}};
        for (int[] d : due) {
            x = new PaperBoard();
            x.paper(0, 1, 1, 2, 1);
            Check.tape(x, "new 12;");
            Check.is("order of " + d[0] + " bytes", x.order(0, d[0]), d[1]);
            Check.is("fault of " + d[0] + " bytes", x.fault(), d[2]);
            Check.is("tape behind " + d[0] + " bytes", x.count(10), 0);
            Check.tape(x, "fine 3;");
            Check.is("another order", x.order(0, 7), d[1] == 0 ? 1 : 0);
            Check.is("fine of the other order", x.tells(0, 3), 3);
        }
    }

    private static void numbers() {
        Check.words("digits, as many as stand there, 0 to 9,999", () -> {
            String[] clauses = {"fine", "new", "least"};
            int[] what = {3, 4, 7};
            for (int i = 0; i < 3; i++) {
                tells(clauses[i] + " 0;", what[i], 0);
                tells(clauses[i] + " 9999;", what[i], 9999);
                tells(clauses[i] + "9999 ;", what[i], 9999);
                Check.faulty(clauses[i] + " 10000;", 2, clauses[i].length() + 1);
                Check.faulty(clauses[i] + " -1;", 1, clauses[i].length() + 1);
            }
            tells("part 0;", 0, 0);
            tells("part 9999;", 0, 9999);
            Check.faulty("part 10000;", 2, 5);
            Check.faulty("price 1*10000;", 2, 8);
            tells("new " + "0".repeat(294) + "7;", 4, 7);
            tells("new " + "0".repeat(295) + ";", 4, 0);
            Check.faulty("new " + "9".repeat(295) + ";", 2, 4);
            Check.faulty("new 1 2;", 1, 6);
        });
        Check.words("digits, as many as stand there, 0 to 9,999", OrdersBoundsTest::numbersThatWouldWrap);
        Check.words("of pages 2 to 64", () -> {
            tells("pages daily 2;", 1, 2);
            tells("pages daily 64;", 1, 64);
            tells("pages daily 0064;", 1, 64);
            for (int n : new int[] {0, 1, 65, 66, 9999, 10000}) Check.faulty("pages daily " + n + ";", 2, 12);
            Check.faulty("pages weekly 1;", 2, 13);
            Check.faulty("pages party 65;", 2, 12);
        });
        Check.words("of swap and waste 0 to 100", () -> {
            tells("swap 0;", 5, 0);
            tells("swap 100;", 5, 100);
            tells("waste 0;", 6, 0);
            tells("waste 100;", 6, 100);
            for (int n : new int[] {101, 102, 9999, 10000}) {
                Check.faulty("swap " + n + ";", 2, 5);
                Check.faulty("waste " + n + ";", 2, 6);
            }
        });
    }

    /** Numbers that are 0 or 1, or such again, if they are kept in 8, 16, 32 or 64 bits. */
    private static void numbersThatWouldWrap() {
        String[] wrapping = {"65536", "65537", "4294967296", "4294967297", "4294967306", "8589934593", "18446744073709551616",
            "18446744073709551617", "340282366920938463463374607431768211457", "2147483648", "-2147483648"};
        for (String n : wrapping) {
            int fault = n.charAt(0) == '-' ? 1 : 2;
            Check.faulty("new " + n + ";", fault, 4);
            Check.faulty("part " + n + ";", fault, 5);
            Check.faulty("swap " + n + ";", fault, 5);
            Check.faulty("pages daily " + n + ";", fault, 12);
        }
    }

    private static void wordsAndBlanks() {
        Check.words("small letters, as many as stand there", () -> {
            Check.faulty("newnew 1;", 1, 0);
            Check.faulty("ne w 1;", 1, 0);
            Check.faulty("part minmax(1,2);", 1, 5);
            Check.faulty("rest mostly;", 1, 5);
            Check.faulty("rest mos;", 1, 5);
            Check.faulty("New 1;", 1, 0);
            Check.faulty("neW 1;", 1, 0);
            Check.faulty("newW 1;", 1, 3);
            Check.faulty("part baseZ;", 1, 9);
            Check.faulty("part baseA;", 1, 9);
            Check.faulty("pages dailyweekly 9;", 1, 6);
            // The bytes next to the letters and the digits, and letters with the highest bit.
            Check.faulty("new`1;", 1, 3);
            Check.faulty("new{1;", 1, 3);
            Check.faulty("new@1;", 1, 3);
            Check.faulty("new[1;", 1, 3);
            Check.faulty("new 1:;", 1, 5);
            Check.faulty("new /1;", 1, 4);
            Check.faulty("new\u00b1;", 1, 3);
            Check.faulty("p\u00e1rt 1;", 1, 0);
            tells("new9;", 4, 9);
        });
        Check.words("blanks (32) may stand ahead of all these, and at the end", () -> {
            String spread = "  part  if  (  min  (  1  ,  2  )  <  base  *  3  +  1  /  1  -  1  ,  4  ,  5  )  ;  pages  daily  9  ;  ";
            tells(spread, 0, 4);
            tells(spread, 1, 9);
            tells("part if(min(1,2)<base*3+1/1-1,4,5);pages daily 9;", 0, 4);
            for (char c : new char[] {0, 9, 10, 13, 31, 33, 95, 127, 128, 160, 254, 255}) {
                Check.faulty(c + "fine 1;", 1, 0);
                Check.faulty("fine" + c + "1;", 1, 4);
                Check.faulty("fine 1" + c + ";", 1, 6);
                Check.faulty("fine 1;" + c, 1, 7);
            }
            Check.faulty("part 1 0;", 1, 7);
            Check.faulty("part 1;pa rt 1;", 1, 7);
        });
    }

    private static void clauses() {
        Check.words("At most 12 CLAUSES", () -> {
            Check.sound(TWELVE);
            tells("fine 1;".repeat(11) + "fine 2;  ", 3, 2);
            Check.faulty(TWELVE + "new 1;", 3, 72);
        });
        Check.words("of a kind (pages: of a KIND) the last one counts", () -> {
            tells("fine 1;fine 2;", 3, 2);
            tells("new 1;fine 1;new 2;fine 3;", 4, 2);
            tells("swap 1;swap 2;", 5, 2);
            tells("waste 1;waste 2;", 6, 2);
            tells("least 1;least 2;", 7, 2);
            tells("way bids;way alike;", 8, 2);
            tells("way bids;way base;", 8, 0);
            tells("part 1;part 2;", 0, 2);
            tells("price 1;price 2;", 2, 2);
            tells("pages daily 5;pages daily 9;", 1, 9);
            tells("pages daily 9;pages daily 5;", 1, 5);
            tells("pages daily 5;pages weekly 9;pages party 7;", 1, 5);
        });
    }

    private static void faults() {
        Check.words("the first from the left, at its first byte", () -> {
            Check.faulty("new 10000;x", 2, 4);
            Check.faulty("x;new 10000;", 1, 0);
            Check.faulty("part (((((((((1;x", 3, 13);
            Check.faulty("part 10000+(((((((((1;", 2, 5);
            Check.faulty("part 1+  (((((((( 12345 (", 2, 18);
            Check.faulty("fine 1;   wrong 10000;", 1, 10);
        });
        Check.words("1 what can't stand there (at the length, if the text ends too early)", OrdersBoundsTest::textsThatEndTooEarly);
        Check.words("2 an N that is none such", () -> {
            Check.faulty("fine   10000;", 2, 7);
            Check.faulty("pages party   65;", 2, 14);
            Check.faulty("part (base+10000);", 2, 11);
            Check.faulty("new 10000", 2, 4);
        });
        Check.words("3 a 13th CLAUSE, or a 9th \"(\" that is open at one time", OrdersBoundsTest::oneTooMany);
        Check.words("of one the least", () -> {
            // A 13th clause that can't stand there; a number where none can; a 9th "(" where none can.
            Check.faulty(TWELVE + "10000;", 1, 72);
            Check.faulty(TWELVE + "base;", 1, 72);
            Check.faulty(TWELVE + "ne", 1, 72);
            Check.faulty(TWELVE + ";", 1, 72);
            Check.faulty(TWELVE + "(", 1, 72);
            Check.faulty(TWELVE + "new", 3, 72);
            Check.faulty("way 10000;", 1, 4);
            Check.faulty("10000;", 1, 0);
            Check.faulty("rest 10000;", 1, 5);
            Check.faulty("part 1 10000;", 1, 7);
            Check.faulty("pages 10000 5;", 1, 6);
            Check.faulty("part ((((((((1(", 1, 14);
            Check.faulty("part ((((((((base(", 1, 17);
        });
    }

    /** Each text ahead of its end is an end too early; blanks may stand there, and the length is behind them. */
    private static void textsThatEndTooEarly() {
        String[] whole = {"part if(1<min(2,3),(4),5)*6/7+8-9;", "pages weekly 12;", "price max(1,2);", "way bids;", "rest keep;"};
        for (String text : whole) {
            Check.sound(text);
            for (String ends : new String[] {" ", "(", ",", "<", "*", "+", "/", "-", ")"}) {
                for (int i = text.indexOf(ends); i >= 0; i = text.indexOf(ends, i + 1)) {
                    Check.faulty(text.substring(0, i + 1), 1, i + 1);
                    Check.faulty(text.substring(0, i + 1) + "   ", 1, i + 4);
                }
            }
            Check.faulty(text.substring(0, text.length() - 1), 1, text.length() - 1);
            Check.faulty(text.substring(0, text.length() - 1) + "  ", 1, text.length() + 1);
        }
        for (String word : "part pages price fine new swap waste least rest way".split(" ")) {
            Check.faulty(word, 1, word.length());
            Check.faulty("fine 1;" + word + " ", 1, word.length() + 8);
        }
        Check.faulty("pages daily", 1, 11);
        Check.faulty("part min", 1, 8);
        Check.faulty("part if", 1, 7);
        Check.faulty("part base", 1, 9);
        // A word that is cut short is another word.
        Check.faulty("par", 1, 0);
        Check.faulty("part bas", 1, 5);
        Check.faulty("pages dail", 1, 6);
    }

    private static void oneTooMany() {
        for (String clause : "part pages price fine new swap waste least rest way".split(" ")) {
            Check.faulty(TWELVE + clause, 3, 72);
            Check.faulty(TWELVE + " " + clause + " 1;", 3, 73);
        }
        for (String clause : new String[] {"part", "price"}) {
            for (String opens : new String[] {"(", "min(", "max(", "if("}) {
                String eight = clause + " " + "(".repeat(7) + opens;
                Check.faulty(eight + "(1", 3, eight.length());
                Check.faulty(eight + "  max (1", 3, eight.length() + 6);
                Check.faulty(clause + " " + opens + "((((((((1", 3, eight.length());
                Check.faulty(eight + "1", 1, eight.length() + 1);
            }
            Check.sound(clause + " ((((((((1))))))));");
            Check.sound(clause + " (((((((max(1,2))))))));");
            Check.sound(clause + " ((((((((1))))))))*((((((((1))))))))+if((((((((1)))))))<(((((((1))))))),(((((((1))))))),(((((((1))))))));");
            Check.faulty(clause + " ((((((((1)))))))*((((((((1", 3, clause.length() + 25);
        }
    }

    private static void inForce() {
        Check.words("the ORDER that begins the latest, not behind it (of several the one with the greatest number)", () -> {
            x = new PaperBoard();
            x.paper(0, 1, 1, 2, 1);
            Check.order(x, 7, "fine 1;");
            Check.is("ahead of it", x.force(6), -1);
            Check.is("in its month", x.force(7), 0);
            Check.is("behind it", x.force(600), 0);
            Check.order(x, 7, "fine 2;");
            Check.is("of two the greatest number", x.force(7), 1);
            Check.order(x, 0, "fine 3;");
            Check.is("in month 0", x.force(0), 2);
            Check.is("the latest, not the last", x.force(8), 1);
            Check.order(x, 600, "fine 4;");
            Check.is("up to the last", x.force(599), 1);
            Check.is("in the last", x.force(600), 3);
            x.months(6);
            Check.is("tells ahead of it", x.tells(0, 3), 3);
            x.months(1);
            Check.is("tells in its month", x.tells(0, 3), 2);
            for (int i = 0; i < 24; i++) x.months(24);
            x.months(16);
            Check.is("tells in month 599", x.tells(0, 3), 2);
            x.months(1);
            Check.is("tells in month 600", x.tells(0, 3), 4);
        });
        Check.words("of several the one with the greatest number", () -> {
            x = new PaperBoard();
            for (int i = 0; i < 10; i++) Check.order(x, 0, "");
            Check.is("of ten", x.force(0), 9);
        });
        Check.words("without one, or for what it doesn't tell", OrdersBoundsTest::whatIsNotTold);
    }

    /** Whatever one clause tells, all others stay as they are without an order. */
    private static void whatIsNotTold() {
        String[] clauses = {"", "part 1;", "pages daily 5;", "price 6;", "fine 7;", "new 8;", "swap 9;", "waste 11;", "least 13;", "way alike;",
            "rest keep;", "rest most;", "pages weekly 9;pages party 9;"};
        int[] what = {-1, 0, 1, 2, 3, 4, 5, 6, 7, 8, -1, -1, -1};
        int[] is = {0, 1, 5, 6, 7, 8, 9, 11, 13, 2, 0, 0, 0};
        int[] plain = {700, 64, -1, 10, 12, 100, 0, 0, 0};
        for (int i = 0; i < clauses.length; i++) {
            for (int w = 0; w <= 8; w++) tells(clauses[i], w, w == what[i] ? is[i] : plain[w]);
        }
        x = new PaperBoard();
        x.paper(0, 700, 20, 30, 40);
        for (int w = 0; w <= 8; w++) Check.is("without an order tells(0, " + w + ")", x.tells(0, w), plain[w]);
        Check.is("without an order force", x.force(0), -1);
        // Rest most: of 5 kilograms the first one has one more.
        x = Boards.admitted(1, 1);
        x.reel(5, 0);
        Check.is("without an order parted", x.parted(0, -1), 3);
        Check.order(x, 1, "fine 1;");
        Check.is("by one that doesn't tell rest", x.parted(0, -1), 3);
        Check.order(x, 1, "rest keep;");
        Check.is("by one that tells rest", x.parted(0, -1), 2);
    }

    /** The formula is as great as another one; values beyond 0 and a million can't be told otherwise. */
    private static void same(String formula, String other) {
        tells("part if(" + formula + "=" + other + ",1,2);", 0, 1);
    }

    private static void valuesWrap() {
        String least = "4096*4096*128";
        tells("part if(" + least + "<0,1,2);", 0, 1);
        tells("part if(" + least + "-1>0,1,2);", 0, 1);
        same(least + "+" + least, "0");
        same(least + "-1+1", least);
        same("0-(" + least + ")", least);
        same(least + "*(0-1)", least);
        same("4096*4096*256", "0");
        same("4096*4096*256+7", "7");
        same("9999*9999*9999", "9999*9999*9999+4096*4096*256");
        tells("part if(9999*9999*21>0,1,2);", 0, 1);
        tells("part if(9999*9999*22<0,1,2);", 0, 1);
        same("(" + least + ")/(0-1)", least);
    }

    private static void valuesAreCut() {
        same("7/2", "3");
        same("(0-7)/2", "0-3");
        same("7/(0-2)", "0-3");
        same("(0-7)/(0-2)", "3");
        same("1/2", "0");
        same("(0-1)/2", "0");
        same("0/5", "0");
        same("9999/1", "9999");
        same("9999/9999", "1");
        same("9998/9999", "0");
        same("1/0", "0");
        same("0/0", "0");
        same("(0-1)/0", "0");
        same("9999/(copies-20)", "0");
        same("5+7/0*3", "5");
    }

    private static void values() {
        Check.words("VALUES are whole numbers of 32 bits that wrap", OrdersBoundsTest::valuesWrap);
        Check.words("/ cuts, by 0 it is 0", OrdersBoundsTest::valuesAreCut);
        Check.words("kind: 0 to 2", () -> {
            for (int kind = 0; kind <= 2; kind++) {
                x = new PaperBoard();
                x.paper(kind, 700, 20, 30, 40);
                Check.order(x, 0, "part kind;");
                Check.is("kind", x.tells(0, 0), kind);
            }
        });
        Check.words("used: what it USED in the MONTH ahead (0 at first)", () -> {
            x = new PaperBoard();
            x.paper(0, 1, 10, 10, 1);
            Check.order(x, 0, "part used;");
            Check.is("at first", x.tells(0, 0), 0);
            x.months(1);
            Check.is("behind a month without stock", x.tells(0, 0), 0);
            x.reel(40, 0);
            Check.order(x, 0, "");
            x.months(1);
            Check.order(x, 0, "part used;");
            Check.is("behind a month", x.tells(0, 0), 30);
            x.months(1);
            Check.is("behind another one", x.tells(0, 0), 9);
        });
        Check.words("0 and 2 within their bounds", () -> {
            tells("part 0-1;", 0, 0);
            tells("part 0-4096*4096*128;", 0, 0);
            tells("part 1000*1000;", 0, 1000000);
            tells("part 1000*1000+1;", 0, 1000000);
            tells("part 4096*4096*128-1;", 0, 1000000);
            tells("price 0;", 2, 1);
            tells("price 0-1;", 2, 1);
            tells("price 1;", 2, 1);
            tells("price 2;", 2, 2);
            tells("price 100;", 2, 100);
            tells("price 101;", 2, 100);
            tells("price 4096*4096*128;", 2, 1);
            tells("price 4096*4096*128-1;", 2, 100);
        });
    }

    private static void theTape() {
        Check.words("of each number the highest first", () -> {
            x = new PaperBoard();
            // "fine", " 123", "4;  " and blanks: the lowest first they would be no text.
            x.feed(0x66696e65, 0x20313233, 0x343b2020, 0x20202020, 0x20202020);
            x.paper(0, 1, 1, 2, 1);
            Check.is("order", x.order(0, 20), 0);
            Check.is("fine", x.tells(0, 3), 1234);
            x.feed(-1, Integer.MIN_VALUE, Integer.MAX_VALUE, 0, 1);
            Check.is("order of bytes that are no letters", x.order(0, 20), -9);
            Check.is("its fault", x.fault(), 0);
        });
        Check.words("NONE, doing nothing, if there would be more than 300", () -> {
            x = new PaperBoard();
            for (int i = 1; i <= 15; i++) Check.is("feed", x.feed(0x20202020, 0x20202020, 0x20202020, 0x20202020, 0x20202020), 20 * i);
            Check.is("a 16th", x.feed(0x7a7a7a7a, 0, 0, 0, 0), PaperBoard.NONE);
            Check.is("bytes", x.count(10), 300);
            Check.is("order of what was there", x.order(0, 300), 0);
            Check.is("bytes", x.count(10), 0);
            Check.is("feed", x.feed(0, 0, 0, 0, 0), 20);
        });
        Check.words("the MONTH is not 0 to 600, or n is not 0 to the TAPE's bytes (both keep the TAPE)", () -> {
            x = new PaperBoard();
            Check.tape(x, "fine 1;");
            for (int v : new int[] {-1, 601, Integer.MIN_VALUE, Integer.MAX_VALUE}) Check.noNumber("month " + v, () -> x.order(v, 7));
            for (int v : new int[] {-1, 21, Integer.MIN_VALUE, Integer.MAX_VALUE}) Check.noNumber("n " + v, () -> x.order(0, v));
            Check.is("bytes", x.count(10), 20);
            Check.is("month 600", x.order(600, 7), 0);
            Check.noNumber("n 1 of no bytes", () -> x.order(0, 1));
            Check.is("n 0 of no bytes", x.order(0, 0), 1);
        });
        Check.words("The place of the FAULT of the latest order(); NONE without.", () -> {
            x = new PaperBoard();
            Check.is("without an order", x.fault(), PaperBoard.NONE);
            Check.order(x, 0, "x");
            Check.is("at the first byte", x.fault(), 0);
            Check.noNumber("one that is refused", () -> x.order(0, 99));
            Check.is("the latest that was read", x.fault(), 0);
            Check.order(x, 0, "new");
            Check.is("at the length", x.fault(), 3);
            Check.order(x, 0, "");
            Check.is("without a fault", x.fault(), PaperBoard.NONE);
        });
        Check.words("its number, or its FAULT less 10; -1: there are 10", () -> {
            Check.is("1 less 10", Check.order(new PaperBoard(), 0, "x"), -9);
            Check.is("2 less 10", Check.order(new PaperBoard(), 0, "new 10000;"), -8);
            Check.is("3 less 10", Check.order(new PaperBoard(), 0, TWELVE + "new"), -7);
        });
    }

    public static void main(String[] args) {
        howManyAndHowLong();
        numbers();
        wordsAndBlanks();
        clauses();
        faults();
        inForce();
        values();
        theTape();
        Check.end("OrdersBoundsTest");
    }
}
