import java.util.Random;

/** Any arguments in any state: a call answers, or throws what the document names for it, and nothing else. */
public final class StrangeCallsTest {
    private static final int[] EDGES = {0, 1, 2, 3, -1, -2, 11, 12, 19, 20, 79, 80, 300, 301, 599, 600, 601, 1000, 100000,
        100001, Integer.MAX_VALUE, Integer.MAX_VALUE - 1, Integer.MIN_VALUE, Integer.MIN_VALUE + 1, 1 << 30, -(1 << 30)};

    private static Random random;
    private static PaperBoard x;

    private static int n() {
        return random.nextInt(3) == 0 ? random.nextInt() : EDGES[random.nextInt(EDGES.length)];
    }

    private static int call(int which) {
        switch (which) {
            case 0: return x.paper(n(), n(), n(), n(), n());
            case 1: return x.months(n());
            case 2: return x.set(n(), n(), n());
            case 3: return x.told(n(), n());
            case 4: return x.reel(n(), n());
            case 5: return x.where(n());
            case 6: return x.steal(n());
            case 7: return x.find(n());
            case 8: return x.ward(n());
            case 9: return x.loyal(n(), n(), n());
            case 10: return x.demand(n(), n());
            case 11: return x.feed(n(), n(), n(), n(), n());
            case 12: return x.order(n(), n());
            case 13: return x.fault();
            case 14: return x.force(n());
            case 15: return x.tells(n(), n());
            case 16: return x.bid(n(), n(), n());
            case 17: return x.parted(n(), n());
            case 18: return x.swap(n(), n(), n());
            case 19: return x.netted(n(), n());
            case 20: return x.merge(n(), n());
            case 21: return x.gain(n(), n());
            case 22: return x.breach(n(), n());
            case 23: return x.source(n(), n(), n());
            case 24: return x.borne(n(), n());
            case 25: return x.appeal(n(), n());
            case 26: return x.alike(n());
            case 27: return x.apart(n(), n());
            case 28: return x.grant(n(), n());
            case 29: return x.best(n(), n());
            case 30: return x.correct(n(), n(), n());
            case 31: return x.row(n(), n(), n(), n());
            default: return x.count(n());
        }
    }

    private static boolean isNamed(int which, RuntimeException e) {
        boolean index = which > 1 && which != 4 && which != 8 && (which < 11 || which > 14) && which != 32;
        boolean number = (which < 5 || which > 7) && which != 11 && which != 13 && (which < 19 || which > 21)
            && which != 26 && which != 27 && which != 32;
        Class<?> c = e.getClass();
        return index && c == IndexOutOfBoundsException.class || number && c == IllegalArgumentException.class
            || which <= 1 && c == IllegalStateException.class;
    }

    private static void run(int seed) {
        random = new Random(seed);
        x = new PaperBoard();
        for (int i = 0; i < seed % 4; i++) x.paper(i % 3, 10, 10, 10, 10);
        if (seed % 3 == 0) Check.order(x, 0, "way bids;new 2;price used;least 3;");
        for (int i = 0; i < 480; i++) {
            int which = random.nextInt(33);
            try {
                call(which);
            } catch (RuntimeException e) {
                if (!isNamed(which, e) || !Check.isItsOwn(e)) Check.fails("seed " + seed + ", call " + which + " threw " + e);
            }
        }
    }

    public static void main(String[] args) {
        for (int seed = 0; seed < 300; seed++) run(seed);
        Check.end("StrangeCallsTest");
    }
}
