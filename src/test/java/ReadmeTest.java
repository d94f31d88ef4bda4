import java.lang.reflect.Method;
import java.lang.reflect.Modifier;
import java.nio.file.Files;
import java.nio.file.Path;
import java.util.regex.Matcher;
import java.util.regex.Pattern;

/** README.md's example answers what stands beside its calls, and README.md names every call. */
public final class ReadmeTest {
    private static final Check check = new Check("ReadmeTest");
    private static final Pattern TEXT = Pattern.compile("String text = \"([^\"]*)\";.*");
    private static final Pattern LOOP = Pattern.compile("\\s*x\\.put\\(0, k, text\\.charAt\\(k\\)\\);");
    private static final Pattern CALL = Pattern.compile("x\\.(\\w+)\\(([^;]*)\\);\\s*// (-?\\d+).*");

    private final VoteWalls x = new VoteWalls();
    private String text = "";
    private int answers = 0;

    public static void main(String[] args) throws Exception {
        String readme = Files.readString(Path.of("README.md"));
        new ReadmeTest().example(readme);
        namesEveryCall(readme);
        check.end();
    }

    private void example(String readme) throws Exception {
        int from = readme.indexOf("```java\n") + 8;
        int to = readme.indexOf("```", from);
        check.isTrue("README.md has an example", from >= 8 && to > from);
        for (String line : readme.substring(from, to).split("\n")) {
            Matcher told = TEXT.matcher(line);
            Matcher call = CALL.matcher(line);
            if (told.matches()) {
                text = told.group(1);
            } else if (LOOP.matcher(line).matches()) {
                putText();
            } else if (call.matches()) {
                answerOf(line, call);
            } else {
                check.isTrue("a line without an answer calls nothing: " + line, !line.contains("x."));
            }
        }
        check.isTrue("the example has answers: " + answers, answers >= 20);
    }

    private void putText() {
        for (int k = 0; k < text.length(); k++) {
            check.due("put of the text's code " + k, x.put(0, k, text.charAt(k)), 1);
        }
    }

    private void answerOf(String line, Matcher call) throws Exception {
        String told = call.group(2).replace("text.length()", Integer.toString(text.length()));
        String[] numbers = told.isEmpty() ? new String[0] : told.split(", ");
        Class<?>[] kinds = new Class<?>[numbers.length];
        Object[] given = new Object[numbers.length];
        for (int k = 0; k < numbers.length; k++) {
            kinds[k] = int.class;
            given[k] = Integer.valueOf(numbers[k]);
        }
        Method method = VoteWalls.class.getMethod(call.group(1), kinds);
        check.due(line, ((Number) method.invoke(x, given)).longValue(), Long.parseLong(call.group(3)));
        answers++;
    }

    private static void namesEveryCall(String readme) {
        for (Method method : VoteWalls.class.getDeclaredMethods()) {
            if (Modifier.isPublic(method.getModifiers())) {
                check.isTrue("README.md names " + method.getName(), readme.contains("`" + method.getName() + "`"));
            }
        }
    }
}
