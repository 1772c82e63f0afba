/** Promises 5 to 8: reels in the store, at papers, stolen and found. */
public final class ReelsTest {
    private static PaperBoard x;

    private static void reelsWithinBounds() {
        x = new PaperBoard();
        Check.noNumber("weight 0", () -> x.reel(0, 0));
        Check.noNumber("weight 2001", () -> x.reel(2001, 0));
        Check.noNumber("wet -1", () -> x.reel(5, -1));
        Check.noNumber("wet 501", () -> x.reel(5, 501));
        Check.is("reels", x.count(4), 0);
        Check.is("reel", x.reel(2000, 500), 0);
        Check.is("dry is 1000", x.count(5), 1000);
        Check.is("reel", x.reel(1, 1), 1);
        Check.is("dry is cut to 0", x.count(5), 1000);
        Check.is("reel", x.reel(1999, 1), 2);
        Check.is("dry is cut to 1997", x.count(5), 2997);
        for (int i = 3; i < 80; i++) Check.is("reel", x.reel(1, 0), i);
        Check.is("an 81st", x.reel(1, 0), -1);
        Check.noNumber("an 81st that is none", () -> x.reel(0, 0));
        Check.is("reels", x.count(4), 80);
        Check.is("pool", x.count(5), 2997 + 77);
        Check.noIndex("where 80", () -> x.where(80));
        Check.noIndex("where -1", () -> x.where(-1));
        Check.noIndex("steal 80", () -> x.steal(80));
        Check.noIndex("steal -1", () -> x.steal(-1));
        Check.noIndex("find 80", () -> x.find(80));
        Check.noIndex("find -1", () -> x.find(-1));
    }

    private static void outOfTheStore() {
        x = new PaperBoard();
        x.reel(100, 0);
        x.reel(200, 0);
        Check.is("where", x.where(0), -1);
        Check.is("find", x.find(0), -1);
        Check.is("steal", x.steal(0), -1);
        Check.is("where", x.where(0), -2);
        Check.is("again", x.steal(0), -3);
        Check.is("stolen", x.count(11), 1);
        Check.is("pool", x.count(5), 200);
        Check.is("find", x.find(0), 100);
        Check.is("again", x.find(0), -1);
        Check.is("where", x.where(0), -1);
        Check.is("stolen", x.count(11), 0);
        Check.is("pool", x.count(5), 300);
    }

    private static void stockAndRightBehindATheft() {
        x = new PaperBoard();
        x.paper(0, 10, 0, 2, 1);
        x.reel(150, 0);
        x.reel(30, 0);
        x.months(1);
        Check.is("stock", x.told(0, 7), 180);
        Check.is("right", x.told(0, 8), 0);
        Check.is("steal", x.steal(1), 0);
        Check.is("stock", x.told(0, 7), 150);
        Check.is("right stays", x.told(0, 8), 0);
        x.find(1);
        x.months(1);
        Check.is("where", x.where(1), 0);
        Check.is("stock", x.told(0, 7), 180);
    }

    private static void stockIsZeroAtLeast() {
        x = new PaperBoard();
        x.paper(0, 10, 10, 10, 1);
        x.reel(100, 0);
        x.months(1);
        Check.is("stock behind 30 that are used", x.told(0, 7), 70);
        Check.is("steal", x.steal(0), 0);
        Check.is("stock", x.told(0, 7), 0);
        Check.is("where", x.where(0), -2);
        x.months(1);
        Check.is("a reel that is stolen goes to nobody", x.where(0), -2);
        Check.is("stock", x.told(0, 7), 0);
    }

    public static void main(String[] args) {
        reelsWithinBounds();
        outOfTheStore();
        stockAndRightBehindATheft();
        stockIsZeroAtLeast();
        Check.end("ReelsTest");
    }
}
