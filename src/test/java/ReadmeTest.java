import java.io.IOException;
import java.lang.reflect.InvocationTargetException;
import java.lang.reflect.Method;
import java.nio.file.Files;
import java.nio.file.Path;
import java.util.regex.Matcher;
import java.util.regex.Pattern;

/** The calls that README.md shows answer what it says, one after the other. */
public final class ReadmeTest {
    private static final Pattern CALL = Pattern.compile("x\\.(\\w+)\\(([^)]*)\\);\\s+// (-?\\d+)(: .*)?");
    private static final String MADE = "ThreeSizes x = new ThreeSizes();";

    private ReadmeTest() {
    }

    private static Method named(String name) {
        for (Method m : ThreeSizes.class.getMethods()) {
            if (m.getName().equals(name)) {
                return m;
            }
        }
        throw new IllegalArgumentException("no call " + name);
    }

    private static long answer(ThreeSizes x, String name, String numbers) throws IllegalAccessException, InvocationTargetException {
        Method m = named(name);
        String[] told = numbers.isEmpty() ? new String[0] : numbers.split(", ");
        Object[] given = new Object[told.length];
        for (int i = 0; i < told.length; i++) {
            long v = Long.decode(told[i]);
            if (m.getParameterTypes()[i] == long.class) {
                given[i] = v;
            } else {
                given[i] = (int) v;
            }
        }
        return ((Number) m.invoke(x, given)).longValue();
    }

    public static void main(String[] args) throws IOException, IllegalAccessException, InvocationTargetException {
        ThreeSizes x = null;
        boolean isCode = false;
        for (String line : Files.readAllLines(Path.of("README.md"))) {
            Matcher call = CALL.matcher(line);
            if (line.startsWith("```")) {
                isCode = line.equals("```java");
            } else if (isCode && line.equals(MADE)) {
                x = new ThreeSizes();
            } else if (isCode && call.matches()) {
                Check.due(line, answer(x, call.group(1), call.group(2)), Long.parseLong(call.group(3)));
            } else if (isCode) {
                Check.isTrue("a line that can be run: " + line, line.isBlank());
            }
        }
        Check.isTrue("README.md shows calls", x != null);
        Check.end("ReadmeTest");
    }
}
