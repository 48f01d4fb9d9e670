import java.nio.file.Files;
import java.nio.file.Path;
import java.util.List;
import java.util.regex.Matcher;
import java.util.regex.Pattern;

/** The rules of LANGUAGE.md that can be seen in the words of the program; RulesTest looks at the others. */
public final class LanguageTest {
    private static final String[] NEVER = {
        "\\b(throw|throws|try|catch|finally|synchronized|assert|native|volatile|transient|strictfp)\\b",
        "->", "::", "@", "\\b(Object|System\\.out|Random|Thread|Scanner|HashMap|Exception)\\b", "\\bstatic \\{",
        "\\w+Exact\\b", "\"\\s*\\+|\\+\\s*\"", "\\bpackage\\b", "import (?!java\\.util\\.Arrays;)"};

    public static void main(String[] args) throws Exception {
        Due due = new Due();
        Path file = Path.of("src/main/java/TruceLine.java");
        List<String> lines = Files.readAllLines(file);
        String code = String.join("\n", lines).replaceAll("/\\*(?s:.*?)\\*/|//[^\n]*", "");
        for (String never : NEVER) {
            Matcher m = Pattern.compile(never).matcher(code);
            due.same(never, m.find() ? m.group() : "", "");
        }
        due.is("signs beyond 127", code.chars().filter(c -> c > 127).count(), 0);
        due.end();
    }
}
