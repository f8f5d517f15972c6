import java.io.IOException;
import java.lang.reflect.Constructor;
import java.lang.reflect.Field;
import java.lang.reflect.Method;
import java.lang.reflect.Modifier;
import java.nio.file.Files;
import java.nio.file.Path;
import java.util.List;
import java.util.Set;
import java.util.TreeSet;
import java.util.regex.Pattern;

/** The public face, and what of LANGUAGE.md a look at the source and the class can tell. */
public final class FaceTest {
    private static final List<String> FACE = List.of(
            "int land(int)", "int road(int,int)", "int world(int,int)", "int met(int,int)", "int set(int,int)",
            "int way(int,int)", "int next(int,int)", "int says(int,int,int)", "int chance(int,int,int)",
            "int anew()", "int answer(int,int)", "int found(int,boolean)", "int same(int,int,int)",
            "long think(int,int)", "int judge(int)", "int walk(int,int)", "long worth(int)", "int never(int)",
            "int by(int,int,int,int)", "int mean(int,int,int)", "int dusk(int,int,int,int)",
            "int best(int,int,int,int)", "int post(int,int)", "int image()", "int restore()", "int count(int)",
            "int keep(int,int,int,int)", "int row(int,int,int)", "int put(int,int,int)",
            "long element(int,int) throws IllegalArgumentException,IllegalStateException",
            "int copy(int,int,int,int,int)", "int weight(int)", "int toss(int)");

    private static final List<String> RULED_OUT = List.of(
            "->", "::", "\\bfinally\\b", "\\bsynchronized\\b", "\\bassert\\b", "\\bvar\\b", "\\bSystem\\.(?!arraycopy)",
            "\\bgetMessage\\b", "\\bRandom\\b", "\\bThread\\b", "Exact\\(", "\\bwhile \\(true\\)", "for \\(;;\\)",
            "catch \\((Exception|Throwable|RuntimeException|ArithmeticException|ClassCastException"
                    + "|IndexOutOfBoundsException|ArrayIndexOutOfBoundsException|NullPointerException"
                    + "|NegativeArraySizeException|ArrayStoreException)",
            "\\bhashCode\\b", "\\btoString\\b", "\\bstatic \\{", "\" \\+", "\\+ \"");

    private final Checks checks = new Checks();

    public static void main(String[] args) throws IOException {
        FaceTest test = new FaceTest();
        test.face();
        test.members();
        test.source(Files.readString(Path.of("src/main/java/AskNext.java")));
        test.checks.end("FaceTest");
    }

    private void face() {
        Set<String> told = new TreeSet<>();
        Set<String> names = new TreeSet<>();
        for (Method m : AskNext.class.getDeclaredMethods()) {
            if (Modifier.isPublic(m.getModifiers())) {
                told.add(signature(m));
                names.add(m.getName());
            }
        }
        checks.isTrue("the face is as the document says: " + told, told.equals(new TreeSet<>(FACE)));
        for (Class<?> inside : AskNext.class.getDeclaredClasses()) {
            for (Method m : inside.getDeclaredMethods()) {
                checks.isTrue(inside + " has no " + m.getName(), !names.contains(m.getName()));
            }
        }
    }

    private static String signature(Method m) {
        String text = m.getReturnType() + " " + m.getName() + "(" + joined(m.getParameterTypes()) + ")";
        Class<?>[] thrown = m.getExceptionTypes();
        return thrown.length == 0 ? text : text + " throws " + joined(thrown);
    }

    private static String joined(Class<?>[] types) {
        StringBuilder text = new StringBuilder();
        for (Class<?> type : types) {
            text.append(text.length() == 0 ? "" : ",").append(type.getSimpleName());
        }
        return text.toString();
    }

    private void members() {
        checks.isTrue("public and final", Modifier.isPublic(AskNext.class.getModifiers())
                && Modifier.isFinal(AskNext.class.getModifiers()));
        Constructor<?>[] constructors = AskNext.class.getDeclaredConstructors();
        checks.isTrue("one public constructor", constructors.length == 1
                && Modifier.isPublic(constructors[0].getModifiers()) && constructors[0].getParameterCount() == 0);
        for (Field f : AskNext.class.getDeclaredFields()) {
            checks.isTrue(f + " is private", Modifier.isPrivate(f.getModifiers()));
            checks.isTrue(f + " is final, if it is static",
                    !Modifier.isStatic(f.getModifiers()) || Modifier.isFinal(f.getModifiers()));
        }
        for (Method m : AskNext.class.getDeclaredMethods()) {
            checks.isTrue(m + " is public or private",
                    Modifier.isPublic(m.getModifiers()) || Modifier.isPrivate(m.getModifiers()));
            checks.isTrue(m + " takes at most seven", m.getParameterCount() <= 7);
        }
        Class<?>[] inside = AskNext.class.getDeclaredClasses();
        checks.isTrue("some twelve classes", inside.length + 1 <= 12);
        for (Class<?> c : inside) {
            checks.isTrue(c + " is static", Modifier.isStatic(c.getModifiers()));
            checks.isTrue(c + " has some twenty fields", c.getDeclaredFields().length <= 20);
        }
    }

    private void source(String source) {
        String code = source.replaceAll("(?s)/\\*.*?\\*/", "").replaceAll("//[^\n]*", "");
        for (String ruledOut : RULED_OUT) {
            checks.isTrue("the source has no " + ruledOut, !Pattern.compile(ruledOut).matcher(code).find());
        }
        for (String line : source.split("\n")) {
            checks.isTrue("imports what it may: " + line,
                    !line.startsWith("import ") || line.equals("import java.util.NoSuchElementException;"));
            checks.isTrue("signs 1 to 127: " + line, line.chars().allMatch(c -> c >= 1 && c <= 127));
        }
        int longest = 0;
        int lines = 0;
        for (String line : source.split("\n")) {
            // a method ends where the next member begins: members are parted by an empty line
            lines = line.isBlank() ? 0 : lines + 1;
            longest = Math.max(longest, line.startsWith("    private static final int") ? 0 : lines);
        }
        checks.isTrue("methods have at most sixty lines", longest <= 60);
    }
}
