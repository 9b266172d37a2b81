import java.io.IOException;
import java.lang.reflect.Method;
import java.nio.file.Files;
import java.nio.file.Path;
import java.util.regex.Matcher;
import java.util.regex.Pattern;

/** The calls that README.md shows answer what stands behind them. */
public final class ReadmeTest {
    private static final Pattern CALL = Pattern.compile("^x\\.(\\w+)\\(([^)]*|'\\(')\\);\\s+// (-?\\d+)");

    public static void main(String[] args) throws IOException, ReflectiveOperationException {
        CradleVeto x = new CradleVeto();
        int calls = 0;
        for (String line : Files.readAllLines(Path.of("README.md"))) {
            Matcher found = CALL.matcher(line);
            Due.so("a call, and its answer: " + line, !line.startsWith("x.") || found.find());
            if (!line.startsWith("x.")) continue;
            calls++;
            Due.is(line, answer(x, found.group(1), found.group(2)), Long.parseLong(found.group(3)));
        }
        Due.so("calls were found", calls > 20);
        Due.end();
    }

    private static long answer(CradleVeto x, String call, String told) throws ReflectiveOperationException {
        String[] texts = told.isEmpty() ? new String[0] : told.split(", ");
        for (Method each : CradleVeto.class.getDeclaredMethods()) {
            if (!each.getName().equals(call) || each.getParameterCount() != texts.length) continue;
            Object[] values = new Object[texts.length];
            for (int i = 0; i < texts.length; i++) values[i] = value(texts[i], each.getParameterTypes()[i]);
            return ((Number) each.invoke(x, values)).longValue();
        }
        Due.so("there is a call " + call, false);
        return Due.NONE;
    }

    private static Object value(String text, Class<?> type) {
        long v = text.charAt(0) == '\'' ? text.charAt(1) : Long.parseLong(text);
        if (type == long.class) return v;
        return (int) v;
    }
}
