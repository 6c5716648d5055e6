import java.io.IOException;
import java.nio.charset.StandardCharsets;
import java.nio.file.Files;
import java.nio.file.Path;
import java.util.List;
import java.util.regex.Matcher;
import java.util.regex.Pattern;

/**
 * Rules of ../shared/LANGUAGE.md that can be seen in the program's text: a guard against slips, not a
 * full check. It is run from the project's root.
 */
public final class LanguageTest {
    private static final String[] FORBIDDEN = {
        "\\b(throw|throws|try|catch|finally|synchronized|assert|goto|native|volatile|transient)\\b",
        "->", "::", "@", "\\bpackage\\b", "\\bSystem\\.(?!arraycopy\\b)", "\\b\\w+Exact\\b", "\\bThread\\b",
        "\\b(HashMap|HashSet|Map|Set|Deque|Object|Random|Iterator|Collections|Optional|Stream)\\b",
        "\\b(equals|hashCode|toString)\\b", "\\bstatic\\s*\\{", "\\bprotected\\b",
        "\\bstatic\\s+(?!final\\b)(?!class\\b)[\\w<>\\[\\]]+\\s+\\w+\\s*(=|;)"};

    private LanguageTest() {
    }

    public static void main(String[] args) throws IOException {
        Path file = Path.of("src/main/java/StartBench.java");
        List<String> lines = Files.readAllLines(file, StandardCharsets.UTF_8);
        for (int i = 0; i < lines.size(); i++) {
            Due.isTrue("line " + (i + 1) + " has signs 32 to 126 alone", lines.get(i).matches("[ -~]*"));
        }
        String code = withoutComments(String.join("\n", lines));
        for (String pattern : FORBIDDEN) {
            Matcher found = Pattern.compile(pattern).matcher(code);
            Due.isTrue("not in the program: " + pattern, !found.find());
        }
        imports(code);
        shortMethods(code.split("\n"));
        Due.end();
    }

    private static String withoutComments(String text) {
        Matcher comment = Pattern.compile("/\\*.*?\\*/|//[^\n]*", Pattern.DOTALL).matcher(text);
        return comment.replaceAll(one -> one.group().replaceAll("[^\n]", ""));
    }

    private static void imports(String code) {
        Matcher found = Pattern.compile("\\bimport\\s+([\\w.*]+);").matcher(code);
        while (found.find()) {
            Due.isTrue("import " + found.group(1), found.group(1).matches("java\\.util\\.(Arrays|ArrayList|List)"));
        }
    }

    /** A method's first line ends with an opening brace behind a bracket and has no word of a statement. */
    private static void shortMethods(String[] lines) {
        Pattern head = Pattern.compile("^( {4,8}+)(?!if|for|while|switch|else|do\\b)[\\w<>\\[\\]. ]+\\(([^()]*)\\) \\{$");
        for (int i = 0; i < lines.length; i++) {
            Matcher found = head.matcher(lines[i]);
            if (found.find()) {
                int end = i;
                while (end < lines.length && !lines[end].equals(found.group(1) + "}")) {
                    end++;
                }
                Due.isTrue("line " + (i + 1) + ": a method of 60 lines at most", end - i < 60);
                Due.isTrue("line " + (i + 1) + ": 7 parameters at most", found.group(2).split(",").length <= 7);
            }
        }
    }
}
