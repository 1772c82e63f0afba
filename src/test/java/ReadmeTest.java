import java.io.IOException;
import java.lang.reflect.Method;
import java.lang.reflect.Modifier;
import java.nio.file.Files;
import java.nio.file.Path;
import java.util.ArrayList;
import java.util.List;
import java.util.regex.Matcher;
import java.util.regex.Pattern;

/** What README.md shows is true: its example's lines stand here, and answer what they say; it names every call. */
public final class ReadmeTest {
    private ReadmeTest() {
    }

    static void type(PaperBoard board, String text) {
        for (int i = 0; i < text.length(); i += 20) {
            int[] five = new int[5];
            for (int k = 0; k < 20; k++) {
                int sign = i + k < text.length() ? text.charAt(i + k) : 0;
                five[k / 4] = five[k / 4] << 8 | sign;
            }
            board.feed(five[0], five[1], five[2], five[3], five[4]);
        }
    }

    /** The answers of the example, from the first one on. */
    private static int[] example() {
        PaperBoard board = new PaperBoard();
        int daily = board.paper(0, 600, 100, 10, 20);
        int weekly = board.paper(1, 300, 50, 16, 30);
        int town = board.ward(400);
        board.loyal(town, daily, 60);
        board.loyal(town, weekly, 20);
        int reel = board.reel(1000, 100);
        String text = "part base/2; pages weekly 12; fine 5;";
        type(board, text);
        int order = board.order(0, text.length());
        int half = board.tells(daily, 0);
        int month = board.months(1);
        int owner = board.where(reel);
        int stock = board.told(daily, 7);
        int coins = board.told(daily, 6);
        int owed = board.told(weekly, 8);
        int parted = board.row(daily, 0, 0, 1);
        return new int[] {daily, weekly, town, reel, order, half, month, owner, stock, coins, owed, parted};
    }

    private static void exampleIsTrue(String readme, String test) {
        List<Integer> said = new ArrayList<>();
        Matcher blocks = Pattern.compile("```java\n(.*?)```", Pattern.DOTALL).matcher(readme);
        while (blocks.find()) {
            for (String line : blocks.group(1).split("\n")) {
                String code = line.replaceAll("//.*", "").strip();
                if (!test.contains(code)) Check.fails("a line of README.md is not tried: " + code);
                Matcher number = Pattern.compile("^int .*// (\\d+)").matcher(line);
                if (number.find()) said.add(Integer.parseInt(number.group(1)));
            }
        }
        int[] got = example();
        Check.is("numbers that README.md says", said.size(), got.length);
        for (int i = 0; i < got.length && i < said.size(); i++) Check.is("number " + i + " of README.md", said.get(i), got[i]);
    }

    private static void everyCallIsNamed(String readme) {
        for (Method call : PaperBoard.class.getDeclaredMethods()) {
            boolean isOfTheFace = Modifier.isPublic(call.getModifiers());
            if (isOfTheFace && !readme.contains("`" + call.getName() + "`")) Check.fails("README.md leaves out " + call.getName());
        }
    }

    public static void main(String[] args) throws IOException {
        String readme = Files.readString(Path.of("README.md"));
        exampleIsTrue(readme, Files.readString(Path.of("src/test/java/ReadmeTest.java")));
        everyCallIsNamed(readme);
        Check.end("ReadmeTest");
    }
}
