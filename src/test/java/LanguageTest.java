import java.io.IOException;
import java.nio.file.Files;
import java.nio.file.Path;
import java.util.List;
import java.util.regex.Matcher;
import java.util.regex.Pattern;

/** What of ../shared/LANGUAGE.md can be seen in the text of the class: words, imports, lengths. */
public final class LanguageTest {
    private static final Path CLASS = Path.of("src/main/java/StrikePlan.java");
    private static final String[] FORBIDDEN = {
        "\\bthrow\\b", "\\bthrows\\b", "\\btry\\b", "\\bcatch\\b", "\\bfinally\\b", "\\bsynchronized\\b", "\\bassert\\b",
        "\\bpackage\\b", "\\bvar\\b", "\\bnative\\b", "\\bvolatile\\b", "\\bObject\\b", "Exact\\b", "->", "::", "@",
        "\\bstatic\\s*\\{", "\\bSystem\\.(?!arraycopy)", "\\bMath\\.random", "\\bprotected\\b"};

    public static void main(String[] args) throws IOException {
        Due due = new Due();
        String text = Files.readString(CLASS);
        String code = text.replaceAll("(?s)/\\*.*?\\*/", "").replaceAll("//[^\n]*", "");
        for (String word : FORBIDDEN) {
            due.holds("without " + word, !Pattern.compile(word).matcher(code).find());
        }
        imports(due, code);
        signs(due, text);
        methods(due, List.of(code.split("\n")));
        due.end();
    }

    private static void imports(Due due, String code) {
        Matcher matcher = Pattern.compile("import\\s+([^;]+);").matcher(code);
        while (matcher.find()) {
            due.same("import", matcher.group(1), "java.util.Arrays");
        }
    }

    private static void signs(Due due, String text) {
        for (int k = 0; k < text.length(); k++) {
            if (text.charAt(k) > 126) {
                due.is("sign at " + k, text.charAt(k), 0);
            }
        }
    }

    /** A method begins on a line that ends with ") {" under a class, and ends with "}" under that. */
    private static void methods(Due due, List<String> lines) {
        Pattern head = Pattern.compile("^( {4}| {8})\\w[\\w\\s\\[\\]]*\\((.*)\\) \\{$");
        int found = 0;
        for (int start = 0; start < lines.size(); start++) {
            Matcher matcher = head.matcher(lines.get(start));
            if (!matcher.matches() || lines.get(start).trim().matches("(if|for|while|switch)\\b.*")) {
                continue;
            }
            int end = start;
            while (!lines.get(end).equals(matcher.group(1) + "}")) {
                end++;
            }
            due.holds(lines.get(start).trim() + " is short", end - start < 60);
            due.holds(lines.get(start).trim() + " has few parameters", matcher.group(2).split(",").length <= 7);
            found++;
        }
        due.holds("methods were found", found > 40);
    }
}
