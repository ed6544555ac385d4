import java.lang.reflect.Method;
import java.nio.file.Files;
import java.nio.file.Path;
import java.util.regex.Matcher;
import java.util.regex.Pattern;

/** The calls that README.md shows answer what stands behind them there; run from the project's folder. */
public final class ReadmeTest {
    private static final String MADE = "StrideBanks banks = new StrideBanks();";
    private static final Pattern CALL = Pattern.compile("banks\\.(\\w+)\\((.*)\\); +// (-?\\d+).*");

    /** So that a page whose calls are no longer found is not taken for one whose calls are right. */
    private static final int FEWEST_CALLS = 10;

    private StrideBanks banks;
    private int calls;

    public static void main(String[] args) throws Exception {
        ReadmeTest test = new ReadmeTest();
        for (String line : Files.readAllLines(Path.of("README.md"))) {
            test.follow(line);
        }
        Due.is("calls found, at least " + FEWEST_CALLS, test.calls >= FEWEST_CALLS ? 1 : 0, 1);
        Due.end();
    }

    private void follow(String line) throws Exception {
        if (line.startsWith(MADE)) {
            banks = new StrideBanks();
        } else if (line.startsWith("banks.")) {
            Matcher call = CALL.matcher(line);
            boolean told = call.matches() && banks != null;
            Due.is("a call and its answer: " + line, told ? 1 : 0, 1);
            if (told) {
                calls++;
                Due.is(line, answer(call.group(1), call.group(2)), Integer.parseInt(call.group(3)));
            }
        }
    }

    private int answer(String name, String arguments) throws Exception {
        String[] texts = arguments.isEmpty() ? new String[0] : arguments.split(", ");
        for (Method method : StrideBanks.class.getDeclaredMethods()) {
            if (method.getName().equals(name) && method.getParameterCount() == texts.length) {
                Object[] values = new Object[texts.length];
                for (int i = 0; i < texts.length; i++) {
                    long value = number(texts[i]);
                    values[i] = method.getParameterTypes()[i] == long.class ? (Object) value : (Object) (int) value;
                }
                return (int) method.invoke(banks, values);
            }
        }
        throw new IllegalStateException("README.md shows a call that there is not: " + name);
    }

    private static long number(String text) throws Exception {
        if (text.startsWith("StrideBanks.")) {
            return StrideBanks.class.getField(text.substring(text.indexOf('.') + 1)).getInt(null);
        }
        return Long.decode(text.endsWith("L") ? text.substring(0, text.length() - 1) : text);
    }
}
