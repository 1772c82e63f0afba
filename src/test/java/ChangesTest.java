import java.util.ArrayList;
import java.util.LinkedHashMap;
import java.util.List;
import java.util.Map;

/** What each call changes, and that it changes nothing else that can be seen. */
public final class ChangesTest {
    private interface Made {
        int answer(PaperBoard board);
    }

    private ChangesTest() {
    }

    /** A board with some of all there is; always the same. It is month 1. */
    private static PaperBoard board() {
        PaperBoard b = new PaperBoard();
        b.ward(1000);
        b.ward(500);
        b.paper(0, 600, 100, 10, 20);
        b.paper(1, 300, 50, 20, 30);
        b.paper(2, 100, 40, 4, 10);
        b.loyal(0, 0, 40);
        b.loyal(0, 1, 30);
        b.loyal(1, 1, 80);
        b.loyal(1, 2, 10);
        b.set(0, 3, 7);
        b.set(1, 3, 5);
        b.reel(1000, 100);
        b.reel(500, 0);
        b.reel(300, 0);
        Check.order(b, 0, "price 21;pages weekly 18;new 3;");
        b.months(1);
        b.paper(0, 50, 10, 4, 10);
        Check.order(b, 1, "new 0;swap 50;part base+stock;");
        b.reel(400, 0);
        b.reel(80, 0);
        b.steal(4);
        b.bid(0, 150, 5);
        b.bid(1, 300, 4);
        b.swap(0, 1, 20);
        b.swap(1, 0, 6);
        b.swap(0, 2, 8);
        b.swap(2, 1, 2);
        b.appeal(0, 700);
        b.appeal(1, 400);
        b.appeal(0, 800);
        b.grant(0, 3);
        b.correct(0, 0, 55);
        b.source(0, 10, 20);
        b.source(1, 15, 30);
        Check.tape(b, "fine 3;");
        return b;
    }

    /** All that can be seen of the board without changing it, within its 512 calls. */
    private static Map<String, Integer> picture(PaperBoard b) {
        Map<String, Integer> all = new LinkedHashMap<>();
        for (int w = 0; w <= 11; w++) all.put("count " + w, b.count(w));
        all.put("fault", b.fault());
        for (int m = 0; m <= 2; m++) all.put("force " + m, b.force(m));
        for (int r = 0; r < b.count(4); r++) all.put("where " + r, b.where(r));
        for (int p = 0; p < b.count(1); p++) {
            pictureOf(b, p, all);
            for (int q = 0; q < b.count(1); q++) {
                all.put("netted " + p + " " + q, b.netted(p, q));
                all.put("gain " + p + " " + q, b.gain(p, q));
            }
        }
        for (int a = 1; a < b.count(8); a++) {
            all.put("alike " + a, b.alike(a));
            all.put("apart " + a, b.apart(a, a - 1));
        }
        return all;
    }

    private static void pictureOf(PaperBoard b, int p, Map<String, Integer> all) {
        for (int w = 0; w <= 10; w++) all.put("told " + p + " " + w, b.told(p, w));
        for (int w = 0; w <= 8; w++) all.put("tells " + p + " " + w, b.tells(p, w));
        for (int w = 0; w <= 4; w++) all.put("breach " + p + " " + w, b.breach(p, w));
        for (int w = 0; w <= 3; w++) all.put("borne " + p + " " + w, b.borne(p, w));
        for (int w = 0; w <= 3; w++) all.put("parted " + p + " " + w, b.parted(p, w));
        for (int w = 0; w <= 3; w++) all.put("best " + p + " " + w, b.best(p, w));
        for (int w = 0; w <= 3; w++) all.put("row " + p + " " + w, b.row(p, 0, w, 1));
        all.put("demand " + p, b.demand(p, 1));
    }

    /** The call answers this, and of what was in the picture just these values become others. */
    private static void changes(String call, int due, Made made, String values) {
        PaperBoard board = board();
        Map<String, Integer> before = picture(board());
        Check.is(call, made.answer(board), due);
        Map<String, Integer> behind = picture(board);
        List<String> expected = values.isEmpty() ? List.of() : List.of(values.split(", "));
        List<String> got = new ArrayList<>();
        for (Map.Entry<String, Integer> was : before.entrySet()) {
            Integer is = behind.get(was.getKey());
            if (!was.getValue().equals(is)) got.add(was.getKey() + " = " + is);
        }
        for (String value : got) if (!expected.contains(value)) Check.fails(call + " changed: " + value);
        for (String value : expected) if (!got.contains(value)) Check.fails(call + " did not change: " + value);
    }

    private static void papersAndWards() {
        changes("copies", 100, b -> b.set(0, 0, 90), "told 0 2 = 90");
        changes("pages", 20, b -> b.set(1, 1, 18), "told 1 3 = 18");
        changes("price", 10, b -> b.set(2, 2, 11), "told 2 4 = 11");
        // 8 and 5 points of the 400 kilograms
        changes("points", 7, b -> b.set(0, 3, 8), "told 0 5 = 8, parted 0 1 = 246, parted 1 1 = 154");
        changes("price in the queue", 10, b -> b.set(3, 2, 8), "told 3 4 = 8");
        changes("paper", 4, b -> b.paper(1, 1, 2, 3, 4), "count 1 = 5, count 3 = 2");
        changes("ward", 2, b -> b.ward(9), "count 7 = 3");
        // At 50 of a hundred there are 100 and 200 hundreds, which take 180 of its 215 kilograms.
        changes("loyal", 30, b -> b.loyal(0, 1, 20), "demand 1 = 594, best 1 2 = 300, best 1 3 = 14790");
    }

    private static void reels() {
        // Weights 1175, 505 and 354; points 7, 5 and 0; bids of 150 and then 300
        changes("reel", 5, b -> b.reel(10, 0), "count 4 = 6, count 5 = 410, parted 0 0 = 237, parted 0 1 = 239, "
            + "parted 0 2 = 137, parted 1 0 = 102, parted 1 1 = 171, parted 1 2 = 137, parted 1 3 = 260, parted 2 0 = 71, "
            + "parted 2 2 = 136");
        changes("reel stolen from the store", -1, b -> b.steal(3), "count 5 = 0, count 11 = 2, where 3 = -2, parted 0 0 = 0, "
            + "parted 0 1 = 0, parted 0 2 = 0, parted 0 3 = 0, parted 1 0 = 0, parted 1 1 = 0, parted 1 2 = 0, parted 1 3 = 0, "
            + "parted 2 0 = 0, parted 2 2 = 0");
        // Its part is base and stock, which was less than the reel: 600, 505 and 354 of 1459.
        changes("reel stolen from a paper", 0, b -> b.steal(0), "count 11 = 2, where 0 = -2, told 0 7 = 0, tells 0 0 = 600, "
            + "parted 0 0 = 165, parted 1 0 = 138, parted 2 0 = 97, gain 1 2 = 1, gain 2 1 = 1");
        changes("reel found", 80, b -> b.find(4), "count 5 = 480, count 11 = 0, where 4 = -1, parted 0 0 = 277, "
            + "parted 0 1 = 280, parted 0 2 = 160, parted 1 0 = 119, parted 1 1 = 200, parted 1 2 = 160, parted 1 3 = 300, "
            + "parted 2 0 = 84, parted 2 2 = 160");
    }

    private static void ordersAndBids() {
        changes("feed", 40, b -> b.feed(1, 2, 3, 4, 5), "count 10 = 40");
        changes("order for another month", 2, b -> b.order(2, 7), "count 6 = 3, count 10 = 0, force 2 = 2");
        changes("order for this month", 2, b -> b.order(1, 7), "count 6 = 3, count 10 = 0, force 1 = 2, force 2 = 2, "
            + "tells 0 0 = 600, tells 0 3 = 3, tells 0 4 = 12, tells 0 5 = 100, parted 0 0 = 240, "
            + "tells 1 0 = 300, tells 1 3 = 3, tells 1 4 = 12, tells 1 5 = 100, parted 1 0 = 120, "
            + "tells 2 0 = 100, tells 2 3 = 3, tells 2 4 = 12, tells 2 5 = 100, parted 2 0 = 40, "
            + "tells 3 3 = 3, tells 3 4 = 12, tells 3 5 = 100");
        changes("faulty order", -9, b -> b.order(1, 6), "count 10 = 0, fault = 6");
        changes("bid", 1, b -> b.bid(2, 30, 9), "parted 1 3 = 220, parted 2 3 = 30");
        changes("another bid", 1, b -> b.bid(0, 30, 3), "parted 0 3 = 30, parted 1 3 = 300");
    }

    private static void dealsAndJudgements() {
        changes("swap", 5, b -> b.swap(0, 1, 10), "told 0 7 = 565, tells 0 0 = 1165, parted 0 0 = 230, netted 0 1 = -12, "
            + "gain 0 2 = -1, told 1 7 = 210, tells 1 0 = 510, parted 1 0 = 100, netted 1 0 = 12, gain 2 0 = -1");
        changes("source", 2, b -> b.source(0, 15, 40), "borne 0 0 = 15, borne 0 2 = 2");
        changes("appeal", 3, b -> b.appeal(2, 5), "count 8 = 4");
        changes("grant of what is alike to none", 1, b -> b.grant(2, 1), "");
        changes("grant", 1, b -> b.grant(1, 1), "");
        changes("told anew", 1, b -> b.correct(1, 0, 66), "count 9 = 2, row 1 1 = 66");
    }

    /** Of both: base, copies, stock, right, coins, reels, loyal; points, pages, price, bids and all else stay where they were. */
    private static void mergers() {
        changes("merger", 1, b -> b.merge(0, 1), "count 2 = 2, where 1 = 0, "
            + "told 0 1 = 900, told 0 2 = 150, told 0 6 = 3460, told 0 7 = 780, told 0 8 = 130, "
            + "tells 0 0 = 1680, parted 0 0 = 330, parted 0 1 = 400, parted 0 2 = 200, "
            + "best 0 2 = 550, best 0 3 = 27115, demand 0 = 1089, gain 0 1 = -2000000000, "
            + "told 1 1 = 0, told 1 2 = 0, told 1 6 = 0, told 1 7 = 0, told 1 8 = 0, told 1 9 = 2, "
            + "tells 1 0 = 0, parted 1 0 = 0, parted 1 1 = 0, parted 1 2 = 0, parted 1 3 = 0, "
            + "best 1 0 = -2000000000, best 1 1 = -2000000000, best 1 2 = -2000000000, best 1 3 = -2000000000, "
            + "demand 1 = 0, gain 1 0 = -2000000000, gain 1 2 = -2000000000, parted 2 2 = 200, gain 2 1 = -2000000000");
        changes("merger the other way round", 1, b -> b.merge(1, 0), "count 2 = 2, where 0 = 1, "
            + "told 1 1 = 900, told 1 2 = 150, told 1 6 = 3460, told 1 7 = 780, told 1 8 = 130, "
            + "tells 1 0 = 1680, parted 1 0 = 330, parted 1 1 = 400, parted 1 2 = 200, parted 1 3 = 300, "
            + "best 1 2 = 550, best 1 3 = 27115, demand 1 = 1089, gain 1 0 = -2000000000, "
            + "told 0 1 = 0, told 0 2 = 0, told 0 6 = 0, told 0 7 = 0, told 0 8 = 0, told 0 9 = 2, "
            + "tells 0 0 = 0, parted 0 0 = 0, parted 0 1 = 0, parted 0 2 = 0, parted 0 3 = 0, "
            + "best 0 0 = -2000000000, best 0 1 = -2000000000, best 0 2 = -2000000000, best 0 3 = -2000000000, "
            + "demand 0 = 0, gain 0 1 = -2000000000, gain 0 2 = -2000000000, parted 2 2 = 200, gain 2 0 = -2000000000");
    }

    private static void months() {
        // 231, 99 and 70 kilograms are parted; the reel of 400 goes to the first, which is owed 351.
        changes("month", 2, b -> b.months(1), "count 0 = 2, count 5 = 0, where 3 = 0, "
            + "told 0 6 = 3990, told 0 7 = 675, told 0 8 = -49, tells 0 0 = 1275, parted 0 0 = 0, parted 0 1 = 0, "
            + "parted 0 2 = 0, parted 0 3 = 0, netted 0 1 = 0, netted 0 2 = 0, "
            + "told 1 6 = 2490, told 1 7 = 1, told 1 8 = 109, told 1 10 = 204, tells 1 0 = 301, parted 1 0 = 0, "
            + "parted 1 1 = 0, parted 1 2 = 0, parted 1 3 = 0, best 1 1 = 60, best 1 2 = 184, best 1 3 = 10912, "
            + "netted 1 0 = 0, netted 1 2 = 0, "
            + "told 2 6 = 790, told 2 7 = 206, told 2 8 = -60, tells 2 0 = 306, parted 2 0 = 0, parted 2 2 = 0, "
            + "netted 2 0 = 0, netted 2 1 = 0");
    }

    public static void main(String[] args) {
        papersAndWards();
        reels();
        ordersAndBids();
        dealsAndJudgements();
        mergers();
        months();
        Check.end("ChangesTest");
    }
}
