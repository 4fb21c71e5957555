import java.io.IOException;
import java.nio.file.Files;
import java.nio.file.Path;
import java.util.ArrayList;
import java.util.List;
import java.util.regex.Matcher;
import java.util.regex.Pattern;

/** What of LANGUAGE.md can be seen in the program's text; the rule's number stands at each. */
public final class LanguageTest {
    private static final Path PROGRAM = Path.of("src/main/java/StackJudge.java");

    public static void main(String[] args) throws IOException {
        String code = withoutComments(Files.readString(PROGRAM));
        hasNo(code, "1: a package line", "\\bpackage\\b");
        hasNo(code, "2: a lambda", "->");
        hasNo(code, "2: a method reference", "::");
        hasNo(code, "3: a type outside the list", "\\b(Object|Map|Set|HashMap|Deque|var)\\b");
        hasNo(code, "4: an import but Arrays", "\\bimport\\s+(?!java\\.util\\.Arrays;)");
        hasNo(code, "4: of Arrays but fill", "\\bArrays\\.(?!fill\\()");
        hasNo(code, "4: a function whose name ends in Exact", "Exact\\b");
        hasNo(code, "5: a static initialiser block", "\\bstatic\\s*\\{");
        hasNo(code, "6: a word that is ruled out", "\\b(throws?|try|catch|finally|synchronized|assert)\\b");
        hasNo(code, "9: a loop without a counter", "\\b(while|do)\\b");
        hasNo(code, "13: clock, chance, thread or the world outside", "\\b(System|Math\\.random|Random|Thread)\\b");
        hasNo(code, "12: an object that is not kept in a field",
            "(?m)^(?! *((private )?final |program = |ways = |machine = )).*\\bnew\\b");
        rowsAreTouchedInTwoPlaces(code);
        methodsAreShort(code);
        Due.end();
    }

    private static String withoutComments(String text) {
        return text.replaceAll("(?s)/\\*.*?\\*/", "").replaceAll("//[^\n]*", "");
    }

    private static List<String> found(String code, String pattern) {
        List<String> found = new ArrayList<>();
        Matcher matcher = Pattern.compile(pattern).matcher(code);
        while (matcher.find()) {
            found.add(matcher.group());
        }
        return found;
    }

    private static void hasNo(String code, String rule, String pattern) {
        Due.is("rule " + rule + ": how many of " + pattern, found(code, pattern).size(), 0);
    }

    // Rule 7, an index is looked at before it is used: read and write look, no one else has an index.
    private static void rowsAreTouchedInTwoPlaces(String code) {
        List<String> touched = found(code, "(?<!new int)\\b\\w+\\[[^\\]]+\\]");
        touched.removeIf(one -> one.startsWith("int["));
        Due.is("rule 7: rows touched " + touched, touched.equals(List.of("row[index]", "row[index]")) ? 1 : 0, 1);
    }

    // Rule 11: some sixty lines a method, seven parameters.
    private static void methodsAreShort(String code) {
        Matcher head = Pattern.compile("\n( +)[\\w\\[\\] ]+\\(([^()]*)\\) \\{\n").matcher(code);
        int methods = 0;
        while (head.find()) {
            if (head.group().trim().startsWith("for ") || head.group().trim().startsWith("if ")
                || head.group().trim().startsWith("switch ")) {
                continue;
            }
            methods++;
            int end = code.indexOf("\n" + head.group(1) + "}\n", head.end() - 1);
            String body = code.substring(head.end(), Math.max(head.end(), end));
            String name = head.group().trim();
            Due.is("rule 11: the end of " + name + " is found", end >= 0 ? 1 : 0, 1);
            Due.is("rule 11: " + name + " is short", body.lines().count() <= 60 ? 1 : 0, 1);
            Due.is("rule 11: " + name + " has few parameters", head.group(2).split(",").length <= 7 ? 1 : 0, 1);
        }
        Due.is("rule 11: methods are found (" + methods + ")", methods >= 11 ? 1 : 0, 1);
    }
}
