import java.io.IOException;
import java.io.UncheckedIOException;
import java.nio.charset.StandardCharsets;
import java.nio.file.Files;
import java.nio.file.Path;

/** What the tests share: they say what is wrong, and end with exit code 1 if something was. */
final class Check {
    private static int wrong = 0;
    private static String document = "";

    interface Call {
        int answer();
    }

    interface CallOf {
        int answer(int number);
    }

    private Check() {
    }

    static void is(String call, long got, long due) {
        if (got != due) {
            wrong++;
            System.out.println(call + " answered " + got + ", due is " + due);
        }
    }

    /** Whether the program threw this itself, by a throw of its own, and not the machine or the library in it. */
    static boolean isItsOwn(RuntimeException e) {
        StackTraceElement[] calls = e.getStackTrace();
        return calls.length == 0 || calls[0].getClassName().startsWith("PaperBoard");
    }

    /** The call throws this exception, by a throw of the program's own, and no other one. */
    static void refuses(String call, Class<? extends RuntimeException> due, Call made) {
        String got;
        try {
            got = "answered " + made.answer();
        } catch (RuntimeException e) {
            if (e.getClass() == due && isItsOwn(e)) {
                return;
            }
            got = "threw " + e;
        }
        wrong++;
        System.out.println(call + " " + got + ", due is " + due.getSimpleName());
    }

    static void noIndex(String call, Call made) {
        refuses(call, IndexOutOfBoundsException.class, made);
    }

    static void noNumber(String call, Call made) {
        refuses(call, IllegalArgumentException.class, made);
    }

    static void noState(String call, Call made) {
        refuses(call, IllegalStateException.class, made);
    }

    /** The call takes the least and the most number; one beyond them, and the ends of all numbers, are none such. */
    static void bounded(String call, int least, int most, CallOf made) {
        takes(call + " of " + least, () -> made.answer(least));
        takes(call + " of " + most, () -> made.answer(most));
        for (int v : new int[] {least - 1, most + 1, Integer.MIN_VALUE, Integer.MAX_VALUE}) {
            noNumber(call + " of " + v, () -> made.answer(v));
        }
    }

    /** The call throws nothing. */
    static void takes(String call, Call made) {
        try {
            made.answer();
        } catch (RuntimeException e) {
            fails(call + " threw " + e);
        }
    }

    /** There are so many: the first and the last are taken; one beyond them, and the ends of all numbers, are none. */
    static void indexed(String call, int many, CallOf made) {
        if (many > 0) {
            takes(call + " of 0", () -> made.answer(0));
            takes(call + " of " + (many - 1), () -> made.answer(many - 1));
        }
        for (int v : new int[] {-1, many, Integer.MIN_VALUE, Integer.MAX_VALUE}) {
            noIndex(call + " of " + v, () -> made.answer(v));
        }
    }

    /** A test of its own for words of the document. If they don't stand there just so, it is said, but that isn't wrong:
     *  the document is not the program's to keep as it is. */
    static void words(String quote, Runnable test) {
        int before = wrong;
        if (!document().contains(quote)) {
            System.out.println("  the document doesn't say any more: " + quote);
        }
        test.run();
        if (wrong != before) {
            System.out.println("  which tests: " + quote);
        }
    }

    /** The document, each gap between its words one blank. */
    private static String document() {
        if (document.isEmpty()) {
            try {
                document = Files.readString(Path.of("../shared/DOC.md")).replaceAll("\\s+", " ");
            } catch (IOException e) {
                throw new UncheckedIOException(e);
            }
        }
        return document;
    }

    static void fails(String what) {
        wrong++;
        System.out.println(what);
    }

    static void end(String test) {
        System.out.println(test + ": " + (wrong == 0 ? "all as due" : wrong + " not as due"));
        if (wrong != 0) {
            System.exit(1);
        }
    }

    /** Puts a text on the tape, with bytes 0 behind it up to a multiple of twenty. */
    static void tape(PaperBoard board, String text) {
        byte[] bytes = text.getBytes(StandardCharsets.ISO_8859_1);
        for (int i = 0; i < bytes.length; i += 20) {
            int[] n = new int[5];
            for (int k = 0; k < 20; k++) {
                int b = i + k < bytes.length ? bytes[i + k] & 255 : 0;
                n[k / 4] = n[k / 4] << 8 | b;
            }
            board.feed(n[0], n[1], n[2], n[3], n[4]);
        }
    }

    /** The answer of order() to a text. */
    static int order(PaperBoard board, int month, String text) {
        tape(board, text);
        return board.order(month, text.length());
    }

    /** The text has this fault at this place. */
    static void faulty(String text, int fault, int place) {
        PaperBoard board = new PaperBoard();
        is("order of \"" + text + "\"", order(board, 0, text), fault - 10);
        is("fault of \"" + text + "\"", board.fault(), place);
        is("orders behind \"" + text + "\"", board.count(6), 0);
    }

    /** The text has no fault. */
    static void sound(String text) {
        PaperBoard board = new PaperBoard();
        is("order of \"" + text + "\"", order(board, 0, text), 0);
        is("fault of \"" + text + "\"", board.fault(), PaperBoard.NONE);
    }
}
