import java.io.IOException;
import java.lang.reflect.Method;
import java.nio.file.Files;
import java.nio.file.Path;
import java.util.regex.Matcher;
import java.util.regex.Pattern;

/** The examples of README.md answer what they say: the word or number right behind a line's "//". */
public final class ReadmeTest {
    private static final Pattern MADE = Pattern.compile("StackJudge judge = new StackJudge\\((\\d)\\);.*");
    private static final Pattern CALL =
        Pattern.compile("judge\\.(\\w+)\\(([-\\d, ]*)\\); +// (-?\\w+)(:.*)?");

    public static void main(String[] args) throws IOException, ReflectiveOperationException {
        StackJudge judge = null;
        int calls = 0;
        boolean inside = false;
        for (String line : Files.readAllLines(Path.of("README.md"))) {
            if (line.startsWith("```")) {
                inside = line.equals("```java");
                continue;
            }
            Matcher made = MADE.matcher(line);
            Matcher call = CALL.matcher(line);
            if (inside && made.matches()) {
                judge = new StackJudge(Integer.parseInt(made.group(1)));
            } else if (inside) {
                Due.is("README.md, a line that can be read: " + line, judge != null && call.matches() ? 1 : 0, 1);
                answers(line, judge, call);
                calls++;
            }
        }
        Due.is("README.md has examples (" + calls + " calls)", calls >= 10 ? 1 : 0, 1);
        Due.end();
    }

    private static void answers(String line, StackJudge judge, Matcher call) throws ReflectiveOperationException {
        if (judge == null || !call.matches()) {
            return;
        }
        String[] written = call.group(2).isEmpty() ? new String[0] : call.group(2).split(", ");
        Object[] given = new Object[written.length];
        Class<?>[] types = new Class<?>[written.length];
        for (int i = 0; i < written.length; i++) {
            given[i] = Integer.parseInt(written[i]);
            types[i] = int.class;
        }
        Method method = StackJudge.class.getMethod(call.group(1), types);
        Due.is("README.md: " + line, ((Number) method.invoke(judge, given)).longValue(), due(call.group(3)));
    }

    private static long due(String word) {
        return word.equals("NONE") ? StackJudge.NONE : Long.parseLong(word);
    }
}
