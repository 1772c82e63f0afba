/** Promises 1 to 4, and 34: a new object, papers and what is told of them. */
public final class PapersTest {
    private static PaperBoard x;

    private static void aNewObject() {
        x = new PaperBoard();
        for (int what = 0; what <= 11; what++) Check.is("count(" + what + ")", x.count(what), 0);
        Check.is("count(12)", x.count(12), PaperBoard.NONE);
        Check.is("count(-1)", x.count(-1), PaperBoard.NONE);
        Check.is("count(least)", x.count(Integer.MIN_VALUE), PaperBoard.NONE);
        Check.is("fault", x.fault(), PaperBoard.NONE);
        Check.is("force", x.force(0), PaperBoard.NONE);
        Check.is("NONE", PaperBoard.NONE, -1);
        Check.is("NOTHING", PaperBoard.NOTHING, -2000000000);
        Check.noIndex("told", () -> x.told(0, 0));
        Check.noIndex("where", () -> x.where(0));
        Check.noIndex("alike", () -> x.alike(0));
    }

    private static void papersWithinBounds() {
        x = new PaperBoard();
        Check.noNumber("kind -1", () -> x.paper(-1, 0, 0, 2, 1));
        Check.noNumber("kind 3", () -> x.paper(3, 0, 0, 2, 1));
        Check.noNumber("base -1", () -> x.paper(0, -1, 0, 2, 1));
        Check.noNumber("base 100001", () -> x.paper(0, 100001, 0, 2, 1));
        Check.noNumber("copies -1", () -> x.paper(0, 0, -1, 2, 1));
        Check.noNumber("copies 1001", () -> x.paper(0, 0, 1001, 2, 1));
        Check.noNumber("pages 1", () -> x.paper(0, 0, 0, 1, 1));
        Check.noNumber("pages 65", () -> x.paper(0, 0, 0, 65, 1));
        Check.noNumber("price 0", () -> x.paper(0, 0, 0, 2, 0));
        Check.noNumber("price 101", () -> x.paper(0, 0, 0, 2, 101));
        Check.is("papers", x.count(1), 0);
        Check.is("the least paper", x.paper(0, 0, 0, 2, 1), 0);
        Check.is("the greatest paper", x.paper(2, 100000, 1000, 64, 100), 1);
        for (int i = 2; i < 12; i++) Check.is("paper", x.paper(1, 5, 6, 7, 8), i);
        Check.noState("a 13th", () -> x.paper(1, 5, 6, 7, 8));
        Check.noNumber("a 13th that is none", () -> x.paper(5, 5, 6, 7, 8));
        Check.is("papers", x.count(1), 12);
        Check.is("queued", x.count(3), 12);
        Check.is("admitted", x.count(2), 0);
    }

    private static void whatIsTold() {
        x = new PaperBoard();
        x.paper(2, 11, 12, 13, 14);
        int[] due = {2, 11, 12, 13, 14, 0, 0, 0, 0, 0, 0};
        for (int what = 0; what <= 10; what++) Check.is("told(0, " + what + ")", x.told(0, what), due[what]);
        Check.noNumber("told 11", () -> x.told(0, 11));
        Check.noNumber("told -1", () -> x.told(0, -1));
        Check.noIndex("told of 1", () -> x.told(1, 0));
        Check.noIndex("told of -1, another what", () -> x.told(-1, 99));
    }

    private static void whatIsSet() {
        x = new PaperBoard();
        x.paper(0, 1, 2, 3, 4);
        x.paper(0, 1, 2, 3, 4);
        int[][] bounds = {{0, 1000, 2, 2}, {2, 64, 3, 3}, {1, 100, 4, 4}, {0, 1000, 0, 5}};
        for (int w = 0; w < 4; w++) {
            int what = w;
            int[] b = bounds[w];
            Check.noNumber("set " + w + " below", () -> x.set(0, what, b[0] - 1));
            Check.noNumber("set " + w + " above", () -> x.set(0, what, b[1] + 1));
            Check.is("set " + w, x.set(0, w, b[0]), b[2]);
            Check.is("set " + w, x.set(0, w, b[1]), b[0]);
            Check.is("told", x.told(0, w == 3 ? 5 : w + 2), b[1]);
            Check.is("told of another one", x.told(1, w == 3 ? 5 : w + 2), b[2]);
        }
        Check.noNumber("set 4", () -> x.set(0, 4, 5));
        Check.noNumber("set -1", () -> x.set(0, -1, 5));
        Check.noIndex("set of 2, and none such", () -> x.set(2, 9, -9));
        x.months(1);
        Check.is("merge", x.merge(0, 1), 1);
        Check.is("set of one that is gone", x.set(1, 0, 5), -1);
        Check.noNumber("set of one that is gone, none such", () -> x.set(1, 0, 1001));
        Check.is("told of one that is gone", x.told(1, 2), 0);
    }

    public static void main(String[] args) {
        aNewObject();
        papersWithinBounds();
        whatIsTold();
        whatIsSet();
        Check.end("PapersTest");
    }
}
