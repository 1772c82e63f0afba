import java.nio.charset.StandardCharsets;

/** What the tests share: they say what is wrong, and end with exit code 1 if something was. */
final class Check {
    private static int wrong = 0;

    interface Call {
        int answer();
    }

    private Check() {
    }

    static void is(String call, long got, long due) {
        if (got != due) {
            wrong++;
            System.out.println(call + " answered " + got + ", due is " + due);
        }
    }

    /** Whether the program threw this itself, by a throw of its own, and not the machine or the library in it. */
    static boolean isItsOwn(RuntimeException e) {
        StackTraceElement[] calls = e.getStackTrace();
        return calls.length == 0 || calls[0].getClassName().startsWith("PaperBoard");
    }

    /** The call throws this exception, by a throw of the program's own, and no other one. */
    static void refuses(String call, Class<? extends RuntimeException> due, Call made) {
        String got;
        try {
            got = "answered " + made.answer();
        } catch (RuntimeException e) {
            if (e.getClass() == due && isItsOwn(e)) {
                return;
            }
            got = "threw " + e;
        }
        wrong++;
        System.out.println(call + " " + got + ", due is " + due.getSimpleName());
    }

    static void noIndex(String call, Call made) {
        refuses(call, IndexOutOfBoundsException.class, made);
    }

    static void noNumber(String call, Call made) {
        refuses(call, IllegalArgumentException.class, made);
    }

    static void noState(String call, Call made) {
        refuses(call, IllegalStateException.class, made);
    }

    static void fails(String what) {
        wrong++;
        System.out.println(what);
    }

    static void end(String test) {
        System.out.println(test + ": " + (wrong == 0 ? "all as due" : wrong + " not as due"));
        if (wrong != 0) {
            System.exit(1);
        }
    }

    /** Puts a text on the tape, with bytes 0 behind it up to a multiple of twenty. */
    static void tape(PaperBoard board, String text) {
        byte[] bytes = text.getBytes(StandardCharsets.ISO_8859_1);
        for (int i = 0; i < bytes.length; i += 20) {
            int[] n = new int[5];
            for (int k = 0; k < 20; k++) {
                int b = i + k < bytes.length ? bytes[i + k] & 255 : 0;
                n[k / 4] = n[k / 4] << 8 | b;
            }
            board.feed(n[0], n[1], n[2], n[3], n[4]);
        }
    }

    /** The answer of order() to a text. */
    static int order(PaperBoard board, int month, String text) {
        tape(board, text);
        return board.order(month, text.length());
    }

    /** The text has this fault at this place. */
    static void faulty(String text, int fault, int place) {
        PaperBoard board = new PaperBoard();
        is("order of \"" + text + "\"", order(board, 0, text), fault - 10);
        is("fault of \"" + text + "\"", board.fault(), place);
        is("orders behind \"" + text + "\"", board.count(6), 0);
    }

    /** The text has no fault. */
    static void sound(String text) {
        PaperBoard board = new PaperBoard();
        is("order of \"" + text + "\"", order(board, 0, text), 0);
        is("fault of \"" + text + "\"", board.fault(), PaperBoard.NONE);
    }
}
