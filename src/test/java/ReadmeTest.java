import java.io.IOException;
import java.lang.reflect.InvocationTargetException;
import java.lang.reflect.Method;
import java.lang.reflect.Modifier;
import java.nio.file.Files;
import java.nio.file.Path;
import java.util.regex.Matcher;
import java.util.regex.Pattern;

/** README.md, in the folder where the tests are started, shows calls with their answers, and names every call. */
public final class ReadmeTest extends TestTools {
    private static final Pattern SHOWN_CALL = Pattern.compile("(?m)^cache\\.(\\w+)\\((\\d*)\\); *// (\\w+)");

    public static void main(String[] args) throws IOException, ReflectiveOperationException {
        String readme = Files.readString(Path.of("README.md"));
        shownAnswers(readme);
        namedCalls(readme);
        CHECK.end();
    }

    private static void shownAnswers(String readme) throws ReflectiveOperationException {
        AdaptiveReplacementCache cache = new AdaptiveReplacementCache();
        Matcher shown = SHOWN_CALL.matcher(readme);
        int calls = 0;
        while (shown.find()) {
            calls++;
            CHECK.due(shown.group(1) + "(" + shown.group(2) + "), as README.md shows it",
                    answer(cache, shown.group(1), shown.group(2)), number(shown.group(3)));
        }
        long lines = readme.lines().filter(line -> line.startsWith("cache.")).count();
        CHECK.due("calls with an answer behind them in README.md", calls, lines);
        CHECK.due("README.md shows calls", calls > 0 ? 1 : 0, 1);
    }

    private static int answer(AdaptiveReplacementCache cache, String name, String argument)
            throws ReflectiveOperationException {
        try {
            if (argument.isEmpty()) {
                return (Integer) AdaptiveReplacementCache.class.getMethod(name).invoke(cache);
            }
            Method method = AdaptiveReplacementCache.class.getMethod(name, int.class);
            return (Integer) method.invoke(cache, Integer.parseInt(argument));
        } catch (InvocationTargetException thrown) {
            CHECK.fault(name + "(" + argument + ") threw " + thrown.getCause());
            return NONE;
        }
    }

    /** An answer is written as a number or as a constant of the program. */
    private static int number(String answer) throws ReflectiveOperationException {
        return Character.isDigit(answer.charAt(0)) ? Integer.parseInt(answer)
                : AdaptiveReplacementCache.class.getField(answer).getInt(null);
    }

    private static void namedCalls(String readme) {
        for (Method method : AdaptiveReplacementCache.class.getDeclaredMethods()) {
            if (Modifier.isPublic(method.getModifiers())) {
                CHECK.due("README.md names " + method.getName(),
                        readme.contains("`" + method.getName() + "(") ? 1 : 0, 1);
            }
        }
    }
}
