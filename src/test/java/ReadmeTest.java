import java.io.ByteArrayOutputStream;
import java.io.IOException;
import java.io.PrintStream;
import java.net.URL;
import java.net.URLClassLoader;
import java.nio.file.Files;
import java.nio.file.Path;
import java.util.ArrayList;
import java.util.List;
import java.util.Set;
import java.util.TreeSet;
import java.util.regex.Matcher;
import java.util.regex.Pattern;
import java.util.spi.ToolProvider;
import java.util.stream.Collectors;
import java.util.stream.Stream;

/** What README.md says must be so when it is done as written there. */
public final class ReadmeTest {
    private static final Pattern PROGRAM = Pattern.compile("```java\n(.*?)```", Pattern.DOTALL);
    private static final Pattern COMMANDS = Pattern.compile("```sh\n(.*?)```", Pattern.DOTALL);
    private static final Pattern PRINTED = Pattern.compile("System\\.out\\.println\\(.*// (-?\\d+)");
    private static final Pattern SOURCE = Pattern.compile("\\b(src/\\S+\\.java)");
    private static final Pattern TEST = Pattern.compile("\\b([A-Z]\\w*Test)\\b");

    private final Checks checks = new Checks();
    private final String page;

    private ReadmeTest(String page) {
        this.page = page;
    }

    public static void main(String[] args) throws Exception {
        ReadmeTest test = new ReadmeTest(Files.readString(Path.of("README.md")));
        test.program();
        test.commands();
        test.tests();
        test.checks.end("ReadmeTest");
    }

    /** The page's program, compiled and run, prints the numbers that begin its comments. */
    private void program() throws Exception {
        Matcher m = PROGRAM.matcher(page);
        checks.isTrue("the page has a program", m.find());
        String program = m.group(1);
        checks.isTrue("the page has one program", !m.find());
        List<String> due = all(PRINTED, program);
        checks.isTrue("the program prints something", due.size() > 10);
        checks.due("lines that print, all with a number", program.split("println\\(", -1).length - 1, due.size());
        Path folder = Files.createTempDirectory("readme");
        try {
            List<String> printed = printedBy(folder, program);
            checks.isTrue("the program prints " + printed + ", the page says " + due, printed.equals(due));
        } finally {
            remove(folder);
        }
    }

    private List<String> printedBy(Path folder, String program) throws Exception {
        Path file = folder.resolve("Mine.java");
        Files.writeString(file, program);
        int answer = ToolProvider.findFirst("javac").orElseThrow().run(System.out, System.out,
                "-d", folder.toString(), "src/main/java/AskNext.java", file.toString());
        checks.due("compiling the page's program", answer, 0);
        PrintStream before = System.out;
        ByteArrayOutputStream bytes = new ByteArrayOutputStream();
        URL[] places = {folder.toUri().toURL()};
        try (URLClassLoader loader = new URLClassLoader(places, ClassLoader.getPlatformClassLoader())) {
            System.setOut(new PrintStream(bytes, true));
            loader.loadClass("Mine").getMethod("main", String[].class).invoke(null, (Object) new String[0]);
        } finally {
            System.setOut(before);
        }
        return bytes.toString().lines().collect(Collectors.toList());
    }

    private static void remove(Path folder) throws IOException {
        List<Path> files;
        try (Stream<Path> all = Files.walk(folder)) {
            files = all.collect(Collectors.toCollection(ArrayList::new));
        }
        for (int i = files.size() - 1; i >= 0; i--) {
            Files.delete(files.get(i));
        }
    }

    /** The page's commands name files that there are. */
    private void commands() {
        List<String> blocks = all(COMMANDS, page);
        checks.due("blocks of commands", blocks.size(), 3);
        checks.isTrue("one of them runs all", blocks.contains(".ci/run\n"));
        checks.isTrue(".ci/run can be run", Files.isExecutable(Path.of(".ci/run")));
        for (String file : all(SOURCE, page)) {
            Path path = Path.of(file);
            checks.isTrue(file + " is there", Files.exists(file.contains("*") ? path.getParent() : path));
        }
    }

    /** The page names each test that there is, and no other. */
    private void tests() throws IOException {
        Set<String> there = new TreeSet<>();
        try (Stream<Path> all = Files.list(Path.of("src/test/java"))) {
            all.map(f -> f.getFileName().toString()).filter(f -> f.endsWith("Test.java"))
                    .forEach(f -> there.add(f.substring(0, f.length() - 5)));
        }
        Set<String> told = new TreeSet<>(all(TEST, page));
        checks.isTrue("the page names " + told + ", there are " + there, told.equals(there));
    }

    private static List<String> all(Pattern pattern, String text) {
        List<String> found = new ArrayList<>();
        for (Matcher m = pattern.matcher(text); m.find(); ) {
            found.add(m.group(1));
        }
        return found;
    }
}
