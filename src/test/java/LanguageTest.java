import java.io.IOException;
import java.nio.charset.StandardCharsets;
import java.nio.file.Files;
import java.nio.file.Path;
import java.util.ArrayList;
import java.util.HashMap;
import java.util.List;
import java.util.Map;
import java.util.Set;
import java.util.TreeSet;
import java.util.regex.Matcher;
import java.util.regex.Pattern;

/** What of LANGUAGE.md can be seen in the program's text. It is run at the project's root. */
public final class LanguageTest extends Expect {
    private static final String[] FORBIDDEN = {
        "\\bimport\\b", "\\bpackage\\b", "\\bFloat\\b", "\\bDouble\\b", "\\bthrow\\b", "\\btry\\b", "\\bcatch\\b",
        "->", "::", "\\bassert\\b", "\\bsynchronized\\b", "\\bvar\\b", "\\bfinally\\b", "Exact\\b", "\\bhashCode\\b",
        "\\btoString\\b", "\\bprotected\\b", "\\bvolatile\\b", "\\bnative\\b", "\\bstatic \\{", "\\bString\\.",
        "\\bSystem\\.(?!arraycopy\\b)", "\\bMath\\.(?!max\\b|min\\b|floorMod\\b|floorDiv\\b)",
        "\\bInteger\\.(?!bitCount\\b)", "\\bnew (?!Ship\\b|History\\b|Reasons\\b|Text\\b|Line\\b|int\\[|char\\[|float\\[|Form\\[)"};

    private static final Pattern HEAD =
        Pattern.compile("( {4}| {8})(?:(?:public|private|static) )*(?:[A-Za-z]+ )?([A-Za-z]+)\\((.*)\\) \\{");
    private static final Pattern CALL = Pattern.compile("\\b(?!if\\b|for\\b|while\\b|switch\\b|return\\b)([A-Za-z]+)\\(");

    public static void main(String[] args) throws IOException {
        byte[] bytes = Files.readAllBytes(Path.of("src/main/java/MoodSextant.java"));
        for (byte sign : bytes) {
            if (sign < 0) {
                due("a sign beyond 127", true, false);
            }
        }
        String text = new String(bytes, StandardCharsets.US_ASCII);
        String code = text.replaceAll("(?s)/\\*.*?\\*/", "").replaceAll("//[^\n]*", "");
        for (String forbidden : FORBIDDEN) {
            Matcher matcher = Pattern.compile(forbidden).matcher(code);
            due(forbidden, matcher.find() ? matcher.group() : "", "");
        }
        due("classes inside", Pattern.compile("\\b(class|enum|interface|record) [A-Z]").matcher(code).results().count() <= 12, true);
        Map<String, Set<String>> calls = new HashMap<>();
        methods(code, calls);
        due("methods found, with those of the face", calls.size() > 39, true);
        for (String method : calls.keySet()) {
            depthIsDue(method, calls, List.of());
        }
        finish();
    }

    /** A method begins with four or eight blanks and ends with as many and a brace. */
    private static void methods(String code, Map<String, Set<String>> calls) {
        String[] lines = code.split("\n");
        for (int start = 0; start < lines.length; start++) {
            Matcher head = HEAD.matcher(lines[start]);
            if (!head.matches()) {
                continue;
            }
            String end = head.group(1) + "}";
            StringBuilder body = new StringBuilder();
            int length = 1;
            while (start + length < lines.length && !lines[start + length].equals(end)) {
                body.append(lines[start + length]).append('\n');
                length++;
            }
            due("the length of " + head.group(2), length <= 60, true);
            due("the parameters of " + head.group(2), head.group(3).split(",").length <= 7, true);
            Set<String> called = calls.computeIfAbsent(head.group(2), name -> new TreeSet<>());
            CALL.matcher(body).results().forEach(call -> called.add(call.group(1)));
        }
    }

    /** Methods of one name are taken together, which makes no chain of calls shorter; the library's count too. */
    private static void depthIsDue(String method, Map<String, Set<String>> calls, List<String> before) {
        List<String> open = new ArrayList<>(before);
        open.add(method);
        if (before.contains(method) || open.size() > 8) {
            due("eight calls deep at most, and no recursion: " + open, false, true);
            return;
        }
        for (String called : calls.getOrDefault(method, Set.of())) {
            depthIsDue(called, calls, open);
        }
    }
}
