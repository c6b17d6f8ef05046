import java.io.IOException;
import java.lang.reflect.Constructor;
import java.lang.reflect.Field;
import java.lang.reflect.Method;
import java.lang.reflect.Modifier;
import java.nio.file.Files;
import java.nio.file.Path;
import java.util.Arrays;
import java.util.Set;
import java.util.TreeSet;
import java.util.regex.Matcher;
import java.util.regex.Pattern;

/** The public face of the document, no more and no less, and what LANGUAGE.md leaves of the language. */
public final class FaceTest {
    private static final String[] FACE = {
        "int row(int,int,int)", "int set(int,int,long)", "int copy(int,int,int,int,int)", "long element(int,int)",
        "int holds(int)", "int rule(int,int,int)", "int says(int,int)", "int size(int,int,int)",
        "int sort(int,int,int,int)", "int sorts(int,int)", "int sortOf(int,int)", "int ask(int,int)",
        "int feed(int,int)", "int wipe()", "int wall()", "int state(int)", "int gets(int,int,int)",
        "long lost(int)", "long value(int,int)", "long best(int)", "int now(int,int)", "long gap(int,int)",
        "int head(int)", "int keep(int)", "long cart(int,int,int,int)", "int judge(int,int,int)",
        "int put(int,int,int)", "int build(int,int,int)", "long worth(int,int)", "long price(int,int)",
        "long brings(int,int)", "int fits(int)", "int worst(int)", "long board(int)", "long letter(int,int)",
        "int whom(int)", "long feast(int,int)", "int go(int,int)", "int day(int)", "int seed(int)", "int image()",
        "int back()", "int status(int)"};

    private static final String[] FORBIDDEN = {
        "throw", "throws", "try", "catch", "finally", "synchronized", "assert", "volatile", "transient", "native",
        "import", "package", "protected", "goto", "->", "::", "equals", "hashCode", "toString", "Object", "System.out",
        "Thread", "Runtime", "Exact", "@"};

    private FaceTest() {
    }

    private static String told(Method m) {
        StringBuilder all = new StringBuilder(m.getReturnType() + " " + m.getName() + "(");
        for (Class<?> c : m.getParameterTypes()) {
            all.append(all.charAt(all.length() - 1) == '(' ? "" : ",").append(c);
        }
        return all.append(")").toString();
    }

    private static void face() {
        Class<?> c = ThreeSizes.class;
        Check.isTrue("public and final", Modifier.isPublic(c.getModifiers()) && Modifier.isFinal(c.getModifiers()));
        Set<String> open = new TreeSet<>();
        Set<String> names = new TreeSet<>();
        for (Method m : c.getDeclaredMethods()) {
            if (Modifier.isPublic(m.getModifiers())) {
                open.add(told(m));
                names.add(m.getName());
                Check.isTrue("no static " + m, !Modifier.isStatic(m.getModifiers()));
            }
        }
        Check.same("the methods", open.toString(), new TreeSet<>(Arrays.asList(FACE)).toString());
        for (Method m : c.getDeclaredMethods()) {
            int how = m.getModifiers();
            Check.isTrue("public or private: " + m, Modifier.isPublic(how) || Modifier.isPrivate(how));
            Check.isTrue("no name of a public one: " + m, Modifier.isPublic(how) || !names.contains(m.getName()));
        }
        for (Field f : c.getDeclaredFields()) {
            boolean isNone = f.getName().equals("NONE");
            Check.isTrue("the field " + f, isNone ? Modifier.isPublic(f.getModifiers()) : Modifier.isPrivate(f.getModifiers()));
        }
        Constructor<?>[] makers = c.getDeclaredConstructors();
        Check.isTrue("one public constructor", makers.length == 1 && Modifier.isPublic(makers[0].getModifiers())
            && makers[0].getParameterCount() == 0);
    }

    private static void classesInside() {
        Class<?>[] inside = ThreeSizes.class.getDeclaredClasses();
        Check.isTrue("at most twelve classes inside", inside.length <= 12);
        for (Class<?> c : inside) {
            Check.isTrue("static: " + c, Modifier.isStatic(c.getModifiers()));
            int own = 0;
            for (Field f : c.getDeclaredFields()) {
                boolean isConstant = Modifier.isStatic(f.getModifiers());
                own += isConstant ? 0 : 1;
                Check.isTrue("static is final: " + f, !isConstant || Modifier.isFinal(f.getModifiers()));
            }
            Check.isTrue("at most twenty fields: " + c, own <= 20);
            for (Method m : c.getDeclaredMethods()) {
                Check.isTrue("at most seven parameters: " + m, m.getParameterCount() <= 7);
            }
        }
    }

    private static void words(String file) throws IOException {
        String text = Files.readString(Path.of(file));
        String code = text.replaceAll("(?s)/\\*.*?\\*/", " ").replaceAll("//[^\n]*", " ");
        for (String word : FORBIDDEN) {
            boolean isWord = Character.isLetter(word.charAt(0));
            Matcher m = Pattern.compile(isWord ? "\\b" + Pattern.quote(word) + "\\b" : Pattern.quote(word)).matcher(code);
            Check.isTrue("no " + word + " in the class", !m.find());
        }
        for (char c : text.toCharArray()) {
            if (c > 126) {
                Check.isTrue("a sign beyond 126: " + (int) c, false);
            }
        }
        methodsAreShort(text.split("\n"));
    }

    /** A method opens with a line that ends in ") {" at its indent, and closes with the next "}" at the same. */
    private static void methodsAreShort(String[] lines) {
        for (String indent : new String[] {"    ", "        "}) {
            int opened = -1;
            for (int i = 0; i < lines.length; i++) {
                if (lines[i].startsWith(indent) && lines[i].endsWith(") {") && lines[i].charAt(indent.length()) != ' ') {
                    opened = i;
                } else if (lines[i].equals(indent + "}") && opened >= 0) {
                    Check.isTrue("a method of over sixty lines: " + lines[opened], i - opened < 60);
                    opened = -1;
                }
            }
        }
    }

    public static void main(String[] args) throws IOException {
        face();
        classesInside();
        words(args.length > 0 ? args[0] : "src/main/java/ThreeSizes.java");
        Check.end("FaceTest");
    }
}
