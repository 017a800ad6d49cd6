import java.io.IOException;
import java.lang.reflect.InvocationTargetException;
import java.lang.reflect.Method;
import java.nio.file.Files;
import java.nio.file.Path;
import java.util.List;
import java.util.regex.Matcher;
import java.util.regex.Pattern;

/** The calls that README.md shows answer what it says behind them, and it names every call of the face. */
public final class ReadmeTest {
    private static final Path README = Path.of("README.md");
    private static final Pattern CALL = Pattern.compile("x\\.(\\w+)\\(([^)]*)\\); +// (-?\\w+): .+");
    private static final int FEWEST_CALLS = 10;

    public static void main(String[] args) throws IOException, IllegalAccessException, InvocationTargetException {
        String text = Files.readString(README);
        WipePapers x = new WipePapers();
        int calls = 0;
        for (String line : exampleOf(text)) {
            if (line.startsWith("x.")) {
                oneCall(x, line);
                calls++;
            }
        }
        Due.yes("the example has calls", calls >= FEWEST_CALLS);
        for (Method m : WipePapers.class.getMethods()) {
            if (m.getDeclaringClass() == WipePapers.class) {
                Due.yes("README.md names " + m.getName(), text.contains("`" + m.getName() + "`"));
            }
        }
        Due.end();
    }

    private static List<String> exampleOf(String text) {
        String mark = "```java\n";
        int start = text.indexOf(mark);
        int end = text.indexOf("```", start + mark.length());
        Due.yes("there is an example", start >= 0 && end >= 0);
        return start >= 0 && end >= 0 ? text.substring(start + mark.length(), end).lines().toList() : List.of();
    }

    private static void oneCall(WipePapers x, String line) throws IllegalAccessException, InvocationTargetException {
        Matcher call = CALL.matcher(line);
        Method method = call.matches() ? methodNamed(call.group(1)) : null;
        Due.yes("a call with its answer: " + line, method != null);
        if (method != null) {
            String[] written = call.group(2).isEmpty() ? new String[0] : call.group(2).split(", ");
            String answer = String.valueOf(method.invoke(x, arguments(method, written)));
            Due.yes(line + " answered " + answer, answer.equals(call.group(3)));
        }
    }

    private static Method methodNamed(String name) {
        for (Method m : WipePapers.class.getMethods()) {
            if (m.getName().equals(name)) {
                return m;
            }
        }
        return null;
    }

    private static Object[] arguments(Method method, String[] written) {
        Object[] arguments = new Object[written.length];
        for (int i = 0; i < written.length; i++) {
            boolean isLong = method.getParameterTypes()[i] == long.class;
            long number = Long.parseLong(written[i].replace("L", ""));
            arguments[i] = isLong ? (Object) number : (Object) Math.toIntExact(number);
        }
        return arguments;
    }
}
