import java.io.IOException;
import java.nio.charset.StandardCharsets;
import java.nio.file.Files;
import java.nio.file.Path;
import java.util.regex.Matcher;
import java.util.regex.Pattern;

/** What of LANGUAGE.md can be seen in the program's text. It is run at the project's root. */
public final class LanguageTest extends Expect {
    private static final String[] FORBIDDEN = {
        "\\bimport\\b", "\\bpackage\\b", "\\bFloat\\b", "\\bDouble\\b", "\\bthrow\\b", "\\btry\\b", "\\bcatch\\b",
        "->", "::", "\\bassert\\b", "\\bsynchronized\\b", "\\bvar\\b", "\\bfinally\\b", "Exact\\b", "\\bhashCode\\b",
        "\\btoString\\b", "\\bprotected\\b", "\\bvolatile\\b", "\\bnative\\b", "\\bstatic \\{", "\\bString\\.",
        "\\bSystem\\.(?!arraycopy\\b)", "\\bMath\\.(?!max\\b|min\\b|floorMod\\b|floorDiv\\b)",
        "\\bInteger\\.(?!bitCount\\b)", "\\bnew (?!Ship\\b|History\\b|Reasons\\b|Text\\b|Line\\b|int\\[|char\\[|float\\[|Form\\[)"};

    public static void main(String[] args) throws IOException {
        byte[] bytes = Files.readAllBytes(Path.of("src/main/java/MoodSextant.java"));
        for (byte sign : bytes) {
            if (sign < 0) {
                due("a sign beyond 127", true, false);
            }
        }
        String text = new String(bytes, StandardCharsets.US_ASCII);
        String code = text.replaceAll("(?s)/\\*.*?\\*/", "").replaceAll("//[^\n]*", "");
        for (String forbidden : FORBIDDEN) {
            Matcher matcher = Pattern.compile(forbidden).matcher(code);
            due(forbidden, matcher.find() ? matcher.group() : "", "");
        }
        due("classes inside", Pattern.compile("\\b(class|enum|interface|record) [A-Z]").matcher(code).results().count() <= 12, true);
        lengths(code);
        finish();
    }

    /** A method begins with four or eight blanks and ends with as many and a brace. */
    private static void lengths(String code) {
        String[] lines = code.split("\n");
        for (int start = 0; start < lines.length; start++) {
            if (!lines[start].matches("( {4}| {8})(public |private |static |)+[A-Za-z]+ ?[A-Za-z]*\\(.*\\) \\{")) {
                continue;
            }
            String end = lines[start].replaceAll("[^ ].*", "") + "}";
            int length = 1;
            while (start + length < lines.length && !lines[start + length].equals(end)) {
                length++;
            }
            due("the length of " + lines[start].trim(), length <= 60, true);
        }
    }
}
