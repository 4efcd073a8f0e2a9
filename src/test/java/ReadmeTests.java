import java.io.IOException;
import java.lang.reflect.InvocationTargetException;
import java.lang.reflect.Method;
import java.nio.charset.StandardCharsets;
import java.nio.file.Files;
import java.nio.file.Path;
import java.util.regex.Matcher;
import java.util.regex.Pattern;

/** The calls that README.md shows give the answers that it shows behind them, all on one object. */
public final class ReadmeTests {
    private static final Pattern CALL = Pattern.compile("games\\.(\\w+)\\(([^)]*)\\); *// (-?\\w+).*");

    private ReadmeTests() {
    }

    public static void main(String[] args) throws IOException {
        Check check = new Check();
        HeapGames games = new HeapGames();
        for (String line : Files.readString(Path.of("README.md"), StandardCharsets.US_ASCII).split("\n")) {
            Matcher call = CALL.matcher(line);
            boolean isCall = call.matches();
            check.due("a call without its answer: " + line, isCall, () -> line.startsWith("games."));
            if (isCall) {
                check.due(line, call.group(3), () -> answerOf(games, call.group(1), call.group(2)));
            }
        }
        check.end();
    }

    private static String answerOf(HeapGames games, String name, String list) {
        String[] words = list.isEmpty() ? new String[0] : list.split(", *");
        Object[] numbers = new Object[words.length];
        for (int index = 0; index < words.length; index++) {
            numbers[index] = Integer.decode(words[index]);
        }
        try {
            return String.valueOf(methodNamed(name).invoke(games, numbers));
        } catch (InvocationTargetException thrown) {
            return thrown.getCause().getClass().getSimpleName();
        } catch (IllegalAccessException thrown) {
            return "not public";
        }
    }

    private static Method methodNamed(String name) {
        for (Method method : HeapGames.class.getDeclaredMethods()) {
            if (method.getName().equals(name)) {
                return method;
            }
        }
        throw new IllegalStateException("README.md names a method that is not there: " + name);
    }
}
