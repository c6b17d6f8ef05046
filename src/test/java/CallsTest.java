import java.io.IOException;
import java.lang.reflect.InvocationTargetException;
import java.net.URL;
import java.net.URLClassLoader;
import java.nio.file.Files;
import java.nio.file.Path;
import java.util.ArrayList;
import java.util.Comparator;
import java.util.List;
import java.util.regex.Matcher;
import java.util.regex.Pattern;
import java.util.stream.Stream;
import javax.tools.ToolProvider;

/**
 * "An object is used for at most 512 calls after it has been made; what later calls answer is free": no test may ask for
 * more. The other tests run once more, with a copy of the class whose objects fail at their 513th call.
 */
public final class CallsTest {
    private static final Path CLASS = Path.of("src/main/java/ThreeSizes.java");
    private static final Path TESTS = Path.of("src/test/java");
    private static final Pattern METHOD = Pattern.compile("(?m)^    public (int|long) \\w+\\(.*\\) \\{$");
    private static final String COUNT = " if (++calls > 512) { throw new IllegalStateException(\"an object's 513th call\"); }";
    private static final int FACE = 43;

    private CallsTest() {
    }

    private static String counting(String text) {
        Matcher methods = METHOD.matcher(text);
        Check.due("methods of the face", methods.results().count(), FACE);
        String counts = methods.reset().replaceAll(m -> Matcher.quoteReplacement(m.group() + COUNT));
        return counts.replaceFirst("public final class ThreeSizes \\{", "$0 private int calls;");
    }

    /** The tests that make objects; of the face there is nothing to count. */
    private static List<String> names() throws IOException {
        try (Stream<Path> files = Files.list(TESTS)) {
            return files.map(f -> f.getFileName().toString()).filter(f -> f.endsWith("Test.java"))
                .map(f -> f.substring(0, f.length() - ".java".length()))
                .filter(f -> !f.equals("CallsTest") && !f.equals("FaceTest")).sorted().toList();
        }
    }

    private static void compile(Path copy, Path out) throws IOException {
        List<String> words = new ArrayList<>(List.of("-d", out.toString(), copy.toString()));
        try (Stream<Path> files = Files.list(TESTS)) {
            files.map(Path::toString).filter(f -> f.endsWith(".java")).forEach(words::add);
        }
        int code = ToolProvider.getSystemJavaCompiler().run(null, null, null, words.toArray(new String[0]));
        Check.due("compiling the copy", code, 0);
    }

    private static void copyFails(Path out) throws IOException, ReflectiveOperationException {
        try (URLClassLoader loader = new URLClassLoader(new URL[] {out.toUri().toURL()}, ClassLoader.getPlatformClassLoader())) {
            Class<?> c = loader.loadClass("ThreeSizes");
            Object x = c.getConstructor().newInstance();
            int calls = 0;
            try {
                while (calls < 1000) {
                    c.getMethod("wipe").invoke(x);
                    calls++;
                }
            } catch (InvocationTargetException e) {
                Check.isTrue("the copy's own", e.getCause() instanceof IllegalStateException);
            }
            Check.due("calls that the copy takes", calls, 512);
        }
    }

    private static void runs(String name, Path out) throws IOException, InterruptedException {
        Path told = out.resolve(name + ".told");
        String java = Path.of(System.getProperty("java.home"), "bin", "java").toString();
        int code = new ProcessBuilder(java, "-cp", out.toString(), name).redirectErrorStream(true)
            .redirectOutput(told.toFile()).start().waitFor();
        Check.isTrue(name + " with a copy that counts:\n" + (code == 0 ? "" : Files.readString(told)), code == 0);
    }

    private static void remove(Path dir) throws IOException {
        try (Stream<Path> all = Files.walk(dir)) {
            for (Path file : all.sorted(Comparator.reverseOrder()).toList()) {
                Files.delete(file);
            }
        }
    }

    public static void main(String[] args) throws IOException, InterruptedException, ReflectiveOperationException {
        Path dir = Files.createTempDirectory("calls");
        try {
            Path copy = dir.resolve("ThreeSizes.java");
            Path out = Files.createDirectory(dir.resolve("out"));
            Files.writeString(copy, counting(Files.readString(CLASS)));
            compile(copy, out);
            copyFails(out);
            for (String name : names()) {
                runs(name, out);
            }
        } finally {
            remove(dir);
        }
        Check.end("CallsTest");
    }
}
