import java.io.IOException;
import java.lang.reflect.Field;
import java.lang.reflect.Method;
import java.lang.reflect.Modifier;
import java.nio.file.Files;
import java.nio.file.Path;
import java.util.regex.Matcher;
import java.util.regex.Pattern;

/** What README.md tells: its example's answers, and the names of all calls. */
public final class ReadmeTests {
    private static final Pattern TEXT = Pattern.compile("String text = \"([^\"]+)\";");
    private static final Pattern CALL = Pattern.compile("^x\\.(\\w+)\\(([^)]*)\\); +// (-?\\w+):", Pattern.MULTILINE);

    private static final Check CHECK = new Check("ReadmeTests");

    public static void main(String[] args) throws ReflectiveOperationException, IOException {
        String readme = Files.readString(Path.of("README.md"));
        example(readme);
        for (Method method : AdventStreets.class.getDeclaredMethods()) {
            if (Modifier.isPublic(method.getModifiers())) {
                CHECK.holds("README.md names " + method.getName(), readme.contains("`" + method.getName() + "`"));
            }
        }
        CHECK.end();
    }

    private static void example(String readme) throws ReflectiveOperationException {
        Matcher text = TEXT.matcher(readme);
        CHECK.holds("README.md has a text", text.find());
        AdventStreets x = new AdventStreets();
        Play.feed(x, text.group(1));
        int calls = 0;
        for (Matcher call = CALL.matcher(readme); call.find(); calls++) {
            CHECK.due(call.group(), answer(x, call.group(1), call.group(2)), number(call.group(3)));
        }
        long told = readme.lines().filter(line -> line.startsWith("x.")).count();
        CHECK.due("calls with an answer", calls, told);
        CHECK.holds("there are some", calls > 0);
    }

    private static long answer(AdventStreets x, String name, String numbers) throws ReflectiveOperationException {
        String[] parts = numbers.isEmpty() ? new String[0] : numbers.split(", ");
        Class<?>[] types = new Class<?>[parts.length];
        Object[] values = new Object[parts.length];
        for (int i = 0; i < parts.length; i++) {
            types[i] = int.class;
            values[i] = parts[i].startsWith("'") ? parts[i].charAt(1) : Integer.parseInt(parts[i]);
        }
        return ((Number) AdventStreets.class.getMethod(name, types).invoke(x, values)).longValue();
    }

    /** A number, or the name of a constant of the class. */
    private static long number(String told) throws ReflectiveOperationException {
        if (told.matches("-?\\d+")) {
            return Long.parseLong(told);
        }
        Field constant = AdventStreets.class.getField(told);
        return constant.getInt(null);
    }
}
