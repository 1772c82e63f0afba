import java.lang.reflect.InvocationTargetException;
import java.util.ArrayList;
import java.util.Arrays;
import java.util.List;
import java.util.Random;

/** Random runs of 512 calls, whose answers are those of Oracle. The seeds are fixed, so every run is the same again. */
public final class AgainstOracleTest {
    private static final String NAMES =
        "paper set told reel where steal find ward loyal demand feed order fault force tells bid parted months swap "
        + "netted merge gain breach source borne appeal alike apart grant best correct row count text";
    private static final String[] CALLS = NAMES.split(" ");

    private final Random random;
    private final PaperBoard board = new PaperBoard();
    private final Oracle oracle = new Oracle();
    private final boolean wild;

    private AgainstOracleTest(long seed) {
        random = new Random(seed);
        wild = seed % 7 == 0;
    }

    interface Made {
        int of();
    }

    private static String answer(Made call) {
        try {
            return "" + call.of();
        } catch (RuntimeException e) {
            return e.getClass().getSimpleName();
        }
    }

    /** A number within bounds, now and then one just outside, or any at all. */
    private int n(int least, int most) {
        int dice = random.nextInt(100);
        if (wild && dice < 20) return random.nextInt();
        if (wild && dice < 30) return random.nextBoolean() ? Integer.MAX_VALUE : Integer.MIN_VALUE;
        if (dice == 30) return least - 1;
        if (dice == 31) return most + 1;
        if (dice < 36) return least;
        if (dice < 40) return most;
        return least + random.nextInt(Math.max(1, most - least + 1));
    }

    private int paper() {
        return n(0, Math.max(0, oracle.papers.size() - 1));
    }

    private String pick(String words) {
        String[] all = words.split(" ");
        return all[random.nextInt(all.length)];
    }

    private String sum(int depth) {
        StringBuilder s = new StringBuilder(product(depth));
        while (random.nextInt(4) == 0) s.append(pick("+ -")).append(product(depth));
        return s.toString();
    }

    private String product(int depth) {
        StringBuilder s = new StringBuilder(unit(depth));
        while (random.nextInt(4) == 0) s.append(pick("* /")).append(unit(depth));
        return s.toString();
    }

    private String blanks() {
        return random.nextInt(6) == 0 ? " ".repeat(1 + random.nextInt(2)) : "";
    }

    private String unit(int depth) {
        int dice = random.nextInt(depth <= 0 ? 7 : 12);
        String b = blanks();
        if (dice < 3) return b + random.nextInt(random.nextInt(8) == 0 ? 10001 : 40);
        if (dice < 7) return b + pick("base copies pages price kind month stock used");
        if (dice < 9) return b + "(" + sum(depth - 1) + b + ")";
        if (dice < 11) return b + pick("min max") + "(" + sum(depth - 1) + "," + sum(depth - 1) + ")";
        return b + "if" + b + "(" + sum(depth - 1) + pick("< > =") + sum(depth - 1) + "," + sum(depth - 1) + "," + sum(depth - 1) + ")";
    }

    private String clause() {
        switch (random.nextInt(11)) {
            case 0: case 1: return "part " + sum(random.nextInt(4));
            case 2: case 3: return "pages " + pick("daily weekly party") + " " + (random.nextInt(65) + (random.nextInt(9) == 0 ? 0 : 2)) % 68;
            case 4: return "price " + sum(random.nextInt(4));
            case 5: return "fine " + random.nextInt(50);
            case 6: return "new " + random.nextInt(5);
            case 7: return pick("swap waste") + " " + random.nextInt(102);
            case 8: return "least " + random.nextInt(200);
            case 9: return "rest " + pick("most keep");
            default: return "way " + pick("base points alike bids");
        }
    }

    private String text() {
        StringBuilder s = new StringBuilder();
        int clauses = random.nextInt(random.nextInt(10) == 0 ? 15 : 7);
        for (int i = 0; i < clauses; i++) s.append(blanks()).append(clause()).append(blanks()).append(';');
        if (random.nextInt(40) == 0) s.append("part ").append("(".repeat(random.nextInt(11)));
        s.append(blanks());
        if (random.nextInt(4) == 0) {
            for (int i = 0; i < 1 + random.nextInt(2) && s.length() > 0; i++) {
                int at = random.nextInt(s.length());
                if (random.nextBoolean()) s.deleteCharAt(at);
                else s.insert(at, random.nextInt(3) == 0 ? (char) random.nextInt(256) : ";,()<=>+-*/ a9".charAt(random.nextInt(14)));
            }
        }
        if (s.length() > 300) s.setLength(300);
        return s.toString();
    }

    private void say(String call, String got, String due) {
        if (!got.equals(due)) Check.fails(call + " answered " + got + ", due is " + due);
    }

    private void call(String name) {
        int p = paper();
        int q = paper();
        int m = Math.max(0, oracle.month);
        int[] a;
        switch (name) {
            case "paper": a = v(n(0, 2), n(0, random.nextBoolean() ? 1000 : 100000), n(0, random.nextInt(4) == 0 ? 1000 : 60), n(2, 64), n(1, 100)); break;
            case "set": { int w = n(0, 3); a = v(p, w, w == 1 ? n(2, 64) : w == 2 ? n(1, 100) : n(0, 1000)); break; }
            case "told": a = v(p, n(0, 10)); break;
            case "reel": a = v(n(1, 2000), n(0, 500)); break;
            case "where": case "steal": case "find": a = v(n(0, Math.max(0, oracle.reels.size() - 1))); break;
            case "ward": a = v(n(0, 1000)); break;
            case "loyal": a = v(n(0, Math.max(0, oracle.wards.size() - 1)), p, n(0, 100)); break;
            case "demand": a = v(p, n(1, 100)); break;
            case "feed": a = v(random.nextInt(), random.nextInt(), random.nextInt(), random.nextInt(), random.nextInt()); break;
            case "order": a = v(n(0, 600), n(0, oracle.tape.size())); break;
            case "fault": a = v(); break;
            case "force": a = v(n(0, 600)); break;
            case "tells": a = v(p, n(0, 8)); break;
            case "bid": a = v(p, n(1, random.nextBoolean() ? 3000 : 100000), n(0, random.nextBoolean() ? 3 : 100)); break;
            case "parted": a = v(p, n(-1, 3)); break;
            case "months": a = v(random.nextInt(5) == 0 ? n(0, 24) : n(0, 2)); break;
            case "swap": a = v(p, q, n(1, random.nextInt(3) == 0 ? 100000 : 500)); break;
            case "netted": case "merge": case "gain": a = v(p, q); break;
            case "breach": a = v(p, n(0, 4)); break;
            case "source": { int from = n(0, random.nextBoolean() ? 50 : 100000); a = v(p, from, random.nextInt(9) == 0 ? n(0, 100000) : from + random.nextInt(40)); break; }
            case "borne": a = v(p, n(0, 3)); break;
            case "appeal": a = v(p, n(0, 100000)); break;
            case "alike": a = v(n(0, Math.max(0, oracle.appeals.size() - 1))); break;
            case "apart": a = v(n(0, Math.max(0, oracle.appeals.size() - 1)), n(0, Math.max(0, oracle.appeals.size() - 1))); break;
            case "grant": a = v(n(0, Math.max(0, oracle.appeals.size() - 1)), n(m, m + 3)); break;
            case "best": a = v(p, n(0, 3)); break;
            case "correct": a = v(p, n(0, m), n(0, 1000000)); break;
            case "row": a = v(p, n(0, m), n(0, 3), n(0, m + 2)); break;
            case "count": a = v(n(0, 11)); break;
            default: order(); return;
        }
        StringBuilder told = new StringBuilder(name).append(Arrays.toString(a));
        say(told.toString(), answer(() -> onBoard(name, a)), answer(() -> onOracle(name, a)));
    }

    private static int[] v(int... numbers) {
        return numbers;
    }

    /** Feeds a text and makes it an order, all in calls that are compared, too. */
    private void order() {
        if (!oracle.tape.isEmpty() && random.nextInt(4) != 0) {
            int[] none = v(0, 0);
            say("order(0, 0)", answer(() -> onBoard("order", none)), answer(() -> onOracle("order", none)));
        }
        String text = text();
        for (int i = 0; i < text.length(); i += 20) {
            int[] five = new int[5];
            for (int k = 0; k < 20; k++) {
                five[k / 4] = five[k / 4] << 8 | (i + k < text.length() ? text.charAt(i + k) : 32);
            }
            say("feed", answer(() -> onBoard("feed", five)), answer(() -> onOracle("feed", five)));
        }
        int[] a = v(random.nextInt(3) == 0 ? n(0, 600) : Math.min(600, oracle.month + random.nextInt(3)),
            random.nextInt(9) == 0 ? oracle.tape.size() : Math.min(text.length(), oracle.tape.size()));
        say("order of \"" + text + "\"", answer(() -> onBoard("order", a)), answer(() -> onOracle("order", a)));
        say("fault of \"" + text + "\"", answer(() -> onBoard("fault", v())), answer(() -> onOracle("fault", v())));
    }

    private int onBoard(String name, int[] a) {
        return made(board, name, a);
    }

    private int onOracle(String name, int[] a) {
        return made(oracle, name, a);
    }

    /** The answer of the method of this name, or what it throws. */
    private static int made(Object on, String name, int[] numbers) {
        Class<?>[] types = new Class<?>[numbers.length];
        Arrays.fill(types, int.class);
        Object[] boxed = Arrays.stream(numbers).boxed().toArray();
        try {
            return (Integer) on.getClass().getDeclaredMethod(name, types).invoke(on, boxed);
        } catch (InvocationTargetException e) {
            throw (RuntimeException) e.getCause();
        } catch (ReflectiveOperationException e) {
            throw new AssertionError(e);
        }
    }

    /** All that can be told of every paper, reel and appeal. */
    private void lookAtAll() {
        for (int p = 0; p < oracle.papers.size(); p++) {
            for (int w = 0; w <= 10; w++) look("told", p, w);
            for (int w = 0; w <= 8; w++) look("tells", p, w);
            for (int w = 0; w <= 4; w++) look("breach", p, w);
            for (int w = -1; w <= 3; w++) look("parted", p, w);
            for (int w = 0; w <= 3; w++) look("best", p, w);
            for (int q = 0; q < oracle.papers.size(); q++) {
                look("netted", p, q);
                look("gain", p, q);
            }
            for (int w = 0; w <= 3; w++) look("row", p, oracle.month - 1, w, oracle.month);
        }
        for (int r = 0; r < oracle.reels.size(); r++) look("where", r);
        for (int i = 0; i < oracle.appeals.size(); i++) look("alike", i);
        for (int w = 0; w <= 12; w++) look("count", w);
    }

    private void look(String name, int... a) {
        say(name + Arrays.toString(a), answer(() -> onBoard(name, a)), answer(() -> onOracle(name, a)));
    }

    private void run(int calls) {
        List<String> likely = new ArrayList<>(List.of(CALLS));
        for (int i = 0; i < 6; i++) likely.add(CALLS[random.nextInt(CALLS.length)]);
        for (String often : "text text months months months reel reel reel reel bid bid loyal row correct swap find".split(" ")) likely.add(often);
        int papers = random.nextInt(8);
        for (int i = 0; i < papers; i++) call("paper");
        if (random.nextBoolean()) for (int i = 0; i < 5; i++) call("ward");
        for (int i = 0; i < calls; i++) {
            String name = likely.get(random.nextInt(likely.size()));
            if (name.equals("merge") && random.nextInt(4) != 0) name = "gain";
            if (name.equals("borne") && random.nextInt(4) != 0) name = "source";
            call(name);
            if (random.nextInt(60) == 0) lookAtAll();
        }
        lookAtAll();
    }

    public static void main(String[] args) {
        int runs = args.length > 0 ? Integer.parseInt(args[0]) : 150;
        int from = args.length > 1 ? Integer.parseInt(args[1]) : 0;
        for (int seed = from; seed < from + runs; seed++) new AgainstOracleTest(seed).run(440);
        Check.end("AgainstOracleTest");
    }
}
