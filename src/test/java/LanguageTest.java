import java.nio.file.Files;
import java.nio.file.Path;
import java.util.List;
import java.util.regex.Matcher;
import java.util.regex.Pattern;

/** Some of the rules of LANGUAGE.md that can be seen in the text of the program. */
public final class LanguageTest {
    private static final String[] NEVER = {
        "\\b(throw|throws|try|catch|finally|synchronized|assert|native|volatile|transient|strictfp)\\b",
        "->", "::", "@", "\\b(Object|System\\.out|Random|Thread|Scanner|HashMap|Exception)\\b", "\\bstatic \\{",
        "\\w+Exact\\b", "\"\\s*\\+|\\+\\s*\"", "\\bpackage\\b", "import (?!java\\.util\\.Arrays;)"};
    private static final Pattern METHOD = Pattern.compile("^ {4,8}(?! )[\\w\\[\\] ]+\\(([^()]*)\\) \\{$");

    public static void main(String[] args) throws Exception {
        Due due = new Due();
        Path file = Path.of("src/main/java/TruceLine.java");
        List<String> lines = Files.readAllLines(file);
        String code = String.join("\n", lines).replaceAll("/\\*(?s:.*?)\\*/|//[^\n]*", "");
        for (String never : NEVER) {
            Matcher m = Pattern.compile(never).matcher(code);
            due.same(never, m.find() ? m.group() : "", "");
        }
        due.is("signs beyond 127", code.chars().filter(c -> c > 127).count(), 0);
        checkMethods(due, lines);
        due.end();
    }

    private static void checkMethods(Due due, List<String> lines) {
        int methods = 0;
        for (int i = 0; i < lines.size(); i++) {
            Matcher m = METHOD.matcher(lines.get(i));
            if (!m.find() || lines.get(i).contains("=")) continue;
            methods++;
            due.is("more than 7 parameters: " + lines.get(i), Math.max(7, m.group(1).split(",").length), 7);
            String end = lines.get(i).replaceAll("\\S.*", "}");
            int last = i;
            while (last < lines.size() && !lines.get(last).equals(end)) last++;
            due.is("more than 60 lines: " + lines.get(i), Math.max(60, last - i + 1), 60);
        }
        due.is("methods are found", Math.min(100, methods), 100);
    }
}
