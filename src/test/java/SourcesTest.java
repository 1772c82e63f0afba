/** Promises 25 and 26: sources of a base, and what most of them bear. */
public final class SourcesTest {
    private static PaperBoard x;

    private static void sources() {
        x = new PaperBoard();
        x.paper(0, 1, 0, 2, 1);
        x.paper(0, 1, 0, 2, 1);
        Check.noIndex("paper 2", () -> x.source(2, 5, 4));
        Check.noIndex("paper -1", () -> x.source(-1, 0, 0));
        Check.noNumber("from -1", () -> x.source(0, -1, 5));
        Check.noNumber("to 100001", () -> x.source(0, 1, 100001));
        Check.noNumber("from 100001", () -> x.source(0, 100001, 100001));
        Check.noNumber("from above to", () -> x.source(0, 6, 5));
        Check.noNumber("to -1", () -> x.source(0, -2, -1));
        Check.is("one number", x.source(0, 5, 5), 1);
        Check.is("all numbers", x.source(0, 0, 100000), 2);
        for (int i = 3; i <= 8; i++) Check.is("source", x.source(0, 1, 2), i);
        Check.is("a 9th", x.source(0, 1, 2), -1);
        Check.noNumber("a 9th that is none", () -> x.source(0, 2, 1));
        Check.is("of another one", x.source(1, 7, 8), 1);
    }

    private static void borne(String call, int[] spans, int... due) {
        x = new PaperBoard();
        x.paper(0, 1, 0, 2, 1);
        for (int i = 0; i < spans.length; i += 2) x.source(0, spans[i], spans[i + 1]);
        for (int w = 0; w < 4; w++) Check.is(call + " borne(0, " + w + ")", x.borne(0, w), due[w]);
    }

    private static int[] spans(int... ends) {
        return ends;
    }

    private static void whatIsBorne() {
        borne("none", spans(), -1, -1, -1, -1);
        borne("one", spans(7, 9), 7, 9, 1, 0);
        borne("a number", spans(0, 0), 0, 0, 1, 0);
        borne("the last number", spans(100000, 100000), 100000, 100000, 1, 0);
        borne("the first of two alike", spans(20, 30, 5, 6), 5, 6, 1, 1);
        borne("ends that touch", spans(5, 10, 10, 20), 10, 10, 2, 0);
        borne("ends that don't", spans(5, 10, 11, 20), 5, 10, 1, 2);
        borne("one within", spans(0, 100, 40, 50), 40, 50, 2, 0);
        borne("as many twice", spans(0, 100, 40, 50, 60, 70), 40, 50, 2, 4);
        borne("as many twice, behind one another", spans(0, 100, 60, 70, 40, 50), 40, 50, 2, 2);
        borne("as many at once by others", spans(0, 20, 10, 20, 21, 30, 15, 40), 15, 20, 3, 4);
        borne("up to the last in the same ones", spans(10, 20, 10, 30, 25, 30), 10, 20, 2, 4);
        borne("eight", spans(1, 9, 2, 9, 3, 9, 4, 9, 5, 9, 50, 60, 50, 60, 5, 8), 5, 8, 6, 96);
        borne("the eighth", spans(1, 2, 1, 2, 1, 2, 1, 2, 1, 2, 1, 2, 1, 2, 3, 4), 1, 2, 7, 128);
        Check.noNumber("borne 4", () -> x.borne(0, 4));
        Check.noNumber("borne -1", () -> x.borne(0, -1));
        Check.noIndex("paper 1", () -> x.borne(1, 9));
        Check.noIndex("paper -1", () -> x.borne(-1, 0));
        Check.is("base stays", x.told(0, 1), 1);
    }

    public static void main(String[] args) {
        sources();
        whatIsBorne();
        Check.end("SourcesTest");
    }
}
