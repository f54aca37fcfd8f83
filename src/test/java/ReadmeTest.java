import java.lang.reflect.Method;
import java.lang.reflect.Modifier;
import java.nio.file.Files;
import java.nio.file.Path;
import java.util.regex.Matcher;
import java.util.regex.Pattern;

/** README.md names every call, and those of its example answer what it says behind them. */
public final class ReadmeTest {
    private static final Pattern CALL = Pattern.compile("(?m)^x\\.(\\w+)\\(([^()]*)\\); +// (-?\\d+)");

    private ReadmeTest() {
    }

    private static void namesAll(String page) {
        for (Method m : GapRow.class.getDeclaredMethods()) {
            if (Modifier.isPublic(m.getModifiers())) {
                Due.holds("README.md names " + m.getName(), page.contains("`" + m.getName() + "("));
            }
        }
    }

    private static int number(String told) {
        return told.startsWith("'") ? told.charAt(1) : Integer.parseInt(told);
    }

    private static long answer(GapRow x, String name, String told) throws ReflectiveOperationException {
        String[] parts = told.isEmpty() ? new String[0] : told.split(", ");
        Class<?>[] types = new Class<?>[parts.length];
        Object[] numbers = new Object[parts.length];
        for (int i = 0; i < parts.length; i++) {
            types[i] = int.class;
            numbers[i] = number(parts[i]);
        }
        return ((Number) GapRow.class.getMethod(name, types).invoke(x, numbers)).longValue();
    }

    private static void example(String page) throws ReflectiveOperationException {
        GapRow x = new GapRow();
        Matcher calls = CALL.matcher(page);
        int run = 0;
        while (calls.find()) {
            String call = calls.group(1) + "(" + calls.group(2) + ")";
            Due.is("README.md: " + call, answer(x, calls.group(1), calls.group(2)), Long.parseLong(calls.group(3)));
            run++;
        }
        int lines = page.split("\nx\\.", -1).length - 1;
        Due.holds("README.md has an example", run > 0);
        Due.is("each of its calls has its answer", run, lines);
    }

    public static void main(String[] args) throws Exception {
        String page = Files.readString(Path.of("README.md"));
        namesAll(page);
        example(page);
        Due.end();
    }
}
