import java.io.IOException;
import java.lang.reflect.Method;
import java.nio.file.Files;
import java.nio.file.Path;
import java.util.HashMap;
import java.util.Map;
import java.util.regex.Matcher;
import java.util.regex.Pattern;

/** The calls that README.md shows answer what it says behind them. It is run from the project's root. */
public final class ReadmeTest {
    private static final Pattern SHOWN = Pattern.compile(
        "^ +(?:int (\\w+) = )?moments\\.(\\w+)\\(([^()]*)\\); *// (-?\\d+)(?:: .*)?$");

    private final RentedMoments moments = new RentedMoments();
    private final Map<String, Integer> readers = new HashMap<>();
    private int calls;

    private ReadmeTest() {
    }

    public static void main(String[] args) throws IOException, ReflectiveOperationException {
        ReadmeTest test = new ReadmeTest();
        for (String line : Files.readAllLines(Path.of("README.md"))) {
            if (line.contains("moments.")) {
                test.call(line);
            }
        }
        // Without this a README whose calls are written in another way would pass untested.
        Due.is("calls that README.md shows, at least thirty", test.calls >= 30 ? 1 : 0, 1);
        Due.end("ReadmeTest");
    }

    private void call(String line) throws ReflectiveOperationException {
        Matcher shown = SHOWN.matcher(line);
        if (!shown.matches()) {
            Due.is("README.md: can't be read as a call with its answer:" + line, 0, 1);
            return;
        }
        Method method = methodOf(shown.group(2));
        String[] words = shown.group(3).isEmpty() ? new String[0] : shown.group(3).split(", ");
        Object[] arguments = new Object[words.length];
        for (int i = 0; i < words.length; i++) {
            arguments[i] = argument(words[i]);
        }
        int answer = (Integer) method.invoke(moments, arguments);
        Due.is("README.md:" + line, answer, Integer.parseInt(shown.group(4)));
        if (shown.group(1) != null) {
            readers.put(shown.group(1), answer);
        }
        calls++;
    }

    private static Method methodOf(String name) throws NoSuchMethodException {
        for (Method method : RentedMoments.class.getMethods()) {
            if (method.getName().equals(name)) {
                return method;
            }
        }
        throw new NoSuchMethodException(name);
    }

    private Object argument(String word) {
        if (word.startsWith("'")) {
            return word.charAt(1);
        }
        if (word.equals("true") || word.equals("false")) {
            return Boolean.valueOf(word);
        }
        return readers.containsKey(word) ? readers.get(word) : Integer.valueOf(word);
    }
}
