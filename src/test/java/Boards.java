/** Boards as several tests begin with them. */
final class Boards {
    private Boards() {
    }

    /** A paper of this base in the queue, daily, without copies, of two pages at 1. */
    static int plain(PaperBoard x, int base) {
        return x.paper(0, base, 0, 2, 1);
    }

    /** Plain papers of these bases that are admitted; it is month 1. */
    static PaperBoard admitted(int... bases) {
        PaperBoard x = new PaperBoard();
        for (int base : bases) plain(x, base);
        x.months(1);
        return x;
    }

    /** Reels of so many kilograms together, as few as will do. */
    static void reels(PaperBoard x, int kilograms) {
        for (int left = kilograms; left > 0; left -= 2000) x.reel(Math.min(left, 2000), 0);
    }

    /** A plain paper in month 1 that has a reel of so many kilograms, which are its stock. */
    static PaperBoard withStock(int kilograms) {
        PaperBoard x = new PaperBoard();
        plain(x, 1);
        x.reel(kilograms, 0);
        x.months(1);
        return x;
    }

    static void copiesPagesPrice(PaperBoard x, int paper, int copies, int pages, int price) {
        x.set(paper, 0, copies);
        x.set(paper, 1, pages);
        x.set(paper, 2, price);
    }

    /** One more ward of all readers, who are all loyal to this paper: at a price of p they ask for ten times 100 - p. */
    static void allAreLoyalTo(PaperBoard x, int paper) {
        x.ward(1000);
        x.loyal(x.count(7) - 1, paper, 100);
    }
}
