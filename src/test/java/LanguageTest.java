import java.io.IOException;
import java.nio.file.Files;
import java.nio.file.Path;
import java.util.List;
import java.util.regex.Matcher;
import java.util.regex.Pattern;

/** The program keeps to the rules of its language, as far as its text shows. */
public final class LanguageTest {
    private static final String[] BANNED = {"->", "::", "\\bfinally\\b", "\\bsynchronized\\b", "\\bassert\\b", "\\binstanceof\\b",
        "\\bcatch\\b", "\\btry\\b", "\\bSystem\\.(?!arraycopy)", "\\bpackage\\b", "\\bprotected\\b", "Exact\\(", "\\bMap\\b",
        "\\bRandom\\b", "\\bThread\\b", "\\bvar\\b", "@", "\\bString\\.", "\" *\\+", "\\+ *\"", "\\bequals\\(", "\\bhashCode\\(",
        "\\btoString\\("};

    private static String withoutComments(String text) {
        return text.replaceAll("(?s)/\\*.*?\\*/", "").replaceAll("//[^\n]*", "");
    }

    /** Methods stay within sixty lines, and have seven parameters at most. */
    private static void methods(List<String> lines) {
        int from = -1;
        String end = "";
        for (int i = 0; i < lines.size(); i++) {
            String line = lines.get(i);
            Matcher m = Pattern.compile("^( {4}(?: {4})?)(?! |return|else|throw)[\\w<>\\[\\] ]+\\(([^()]*)\\).*[{]$").matcher(line);
            if (from < 0 && m.find() && !line.contains("class ")) {
                from = i;
                end = m.group(1) + "}";
                if (m.group(2).split(",").length > 7) Check.fails("line " + (i + 1) + ": more than seven parameters");
            } else if (from >= 0 && line.equals(end)) {
                if (i - from > 60) Check.fails("line " + (from + 1) + ": a method of " + (i - from) + " lines");
                from = -1;
            }
        }
    }

    public static void main(String[] args) throws IOException {
        Path path = Path.of("src/main/java/PaperBoard.java");
        String text = withoutComments(Files.readString(path));
        for (String banned : BANNED) {
            Matcher m = Pattern.compile(banned).matcher(text);
            if (m.find()) Check.fails("the program has " + m.group());
        }
        Matcher imports = Pattern.compile("import ([\\w.]+);").matcher(text);
        while (imports.find()) {
            if (!imports.group(1).equals("java.util.ArrayList") && !imports.group(1).equals("java.util.Arrays")) {
                Check.fails("the program imports " + imports.group(1));
            }
        }
        for (char c : text.toCharArray()) if (c > 126) Check.fails("a sign above 126");
        methods(Files.readAllLines(path));
        Check.end("LanguageTest");
    }
}
