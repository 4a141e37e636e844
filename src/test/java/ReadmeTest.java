import java.io.IOException;
import java.lang.reflect.Method;
import java.nio.file.Files;
import java.nio.file.Path;
import java.util.regex.Matcher;
import java.util.regex.Pattern;

/** What README.md shows of the class: every call there, with the answer that stands behind it. */
public final class ReadmeTest {
    private static final Pattern CALL = Pattern.compile("row\\.(\\w+)\\((.*)\\); +// (-?\\d+): .*");

    public static void main(String[] args) {
        Check.runAll(ReadmeTest.class);
    }

    static void theCallsAnswerAsIsSaid(Check check) throws IOException, ReflectiveOperationException {
        SignRow row = new SignRow();
        int calls = 0;
        for (String line : Files.readAllLines(Path.of("README.md"))) {
            Matcher call = CALL.matcher(line);
            if (call.matches()) {
                calls++;
                check.due(line, Integer.parseInt(call.group(3)), answer(row, call.group(1), call.group(2).split(", ")));
            }
        }
        check.due("calls in README.md", 14, calls);
    }

    static void everyCallIsNamed(Check check) throws IOException {
        String text = Files.readString(Path.of("README.md"));
        for (Method m : SignRow.class.getMethods()) {
            if (m.getDeclaringClass() == SignRow.class) {
                check.due(m.getName() + " is told of", 1, text.contains("| `" + m.getName() + "(") ? 1 : 0);
            }
        }
    }

    private static int answer(SignRow row, String name, String[] words) throws ReflectiveOperationException {
        for (Method m : SignRow.class.getMethods()) {
            if (m.getName().equals(name) && m.getParameterCount() == words.length) {
                Object[] values = new Object[words.length];
                for (int i = 0; i < words.length; i++) {
                    values[i] = value(words[i]);
                }
                return (int) m.invoke(row, values);
            }
        }
        throw new NoSuchMethodException(name);
    }

    private static Object value(String word) {
        if (word.equals("true") || word.equals("false")) {
            return word.equals("true");
        }
        return word.startsWith("'") ? (int) word.charAt(1) : Integer.parseInt(word);
    }
}
