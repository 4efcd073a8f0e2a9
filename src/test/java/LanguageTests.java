import java.io.IOException;
import java.lang.reflect.Field;
import java.lang.reflect.Method;
import java.lang.reflect.Modifier;
import java.nio.charset.StandardCharsets;
import java.nio.file.Files;
import java.nio.file.Path;
import java.util.ArrayList;
import java.util.List;
import java.util.regex.Matcher;
import java.util.regex.Pattern;

/**
 * Some rules of ../shared/LANGUAGE.md that can be seen in the source, which is read from the project's folder,
 * or in the classes that it makes.
 */
public final class LanguageTests {
    private static final int LONGEST_METHOD = 60;
    private static final int MOST_PARAMETERS = 7;
    private static final int MOST_CLASSES = 12;
    private static final int MOST_FIELDS = 20;
    private static final String[] RULED_OUT = {
        "->", "::", "\\b(try|catch|finally|synchronized|assert|native|volatile|package|protected)\\b",
        "\\bMath\\.\\w+Exact\\b", "\\b(HashMap|Random|Thread|System\\.(?!arraycopy))", "@",
        "\\bthrow (?!new (IllegalStateException|IllegalArgumentException|IndexOutOfBoundsException)\\(\"[^\"]*\"\\);)",
        "\\bimport (?!java\\.util\\.Arrays;)", "\"[^\"]*\" \\+|\\+ \"", "\\bArrays\\.(?!fill\\()",
        "\\b(static)(?! (final|boolean|int|void|long|class))",
    };

    private LanguageTests() {
    }

    public static void main(String[] args) throws IOException {
        Check check = new Check();
        Path file = Path.of("src/main/java/HeapGames.java");
        String source = Files.readString(file, StandardCharsets.US_ASCII);
        String code = source.replaceAll("(?s)/\\*.*?\\*/", "").replaceAll("//[^\n]*", "");
        for (String pattern : RULED_OUT) {
            check.due("code like " + pattern, "", () -> firstLike(code, pattern));
        }
        check.due("a longer method ends", "", () -> longMethods(List.of(source.split("\n"))));
        List<Class<?>> classes = new ArrayList<>(List.of(HeapGames.class.getDeclaredClasses()));
        classes.add(HeapGames.class);
        check.due("at most some twelve classes", true, () -> classes.size() <= MOST_CLASSES);
        for (Class<?> type : classes) {
            check.due("classes inside " + type, type == HeapGames.class ? classes.size() - 1 : 0,
                    () -> type.getDeclaredClasses().length);
            check.due("static fields of " + type + " that are not constants", "", () -> changingStatics(type));
            check.due("some twenty fields in " + type, true, () -> countFields(type) <= MOST_FIELDS);
            check.due("methods of " + type + " with too many parameters", "", () -> wideMethods(type));
        }
        check.end();
    }

    private static String changingStatics(Class<?> type) {
        StringBuilder found = new StringBuilder();
        for (Field field : type.getDeclaredFields()) {
            int modifiers = field.getModifiers();
            if (Modifier.isStatic(modifiers) && !Modifier.isFinal(modifiers)) {
                found.append(field.getName()).append(' ');
            }
        }
        return found.toString();
    }

    private static int countFields(Class<?> type) {
        int count = 0;
        for (Field field : type.getDeclaredFields()) {
            count += Modifier.isStatic(field.getModifiers()) ? 0 : 1;
        }
        return count;
    }

    private static String wideMethods(Class<?> type) {
        StringBuilder found = new StringBuilder();
        for (Method method : type.getDeclaredMethods()) {
            found.append(method.getParameterCount() > MOST_PARAMETERS ? method.getName() + " " : "");
        }
        return found.toString();
    }

    private static String firstLike(String code, String pattern) {
        Matcher matcher = Pattern.compile(pattern).matcher(code);
        return matcher.find() ? code.substring(matcher.start(), Math.min(code.length(), matcher.end() + 40)) : "";
    }

    /** Methods begin and end at one of two depths: in the class, and in the classes inside it. */
    private static String longMethods(List<String> lines) {
        StringBuilder found = new StringBuilder();
        int[] begin = {0, 0};
        for (int line = 0; line < lines.size(); line++) {
            String text = lines.get(line);
            for (int depth = 0; depth < 2; depth++) {
                String margin = depth == 0 ? "    " : "        ";
                if (text.matches(margin + "\\S.*\\{") && !text.contains(" class ")) {
                    begin[depth] = line;
                }
                if (text.equals(margin + "}") && begin[depth] > 0) {
                    found.append(line - begin[depth] >= LONGEST_METHOD ? "line " + (line + 1) + " " : "");
                    begin[depth] = 0;
                }
            }
        }
        return found.toString();
    }
}
