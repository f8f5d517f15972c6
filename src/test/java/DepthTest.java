import java.io.PrintWriter;
import java.io.StringWriter;
import java.nio.file.Files;
import java.nio.file.Path;
import java.util.HashMap;
import java.util.HashSet;
import java.util.List;
import java.util.Map;
import java.util.Set;
import java.util.regex.Matcher;
import java.util.regex.Pattern;
import java.util.spi.ToolProvider;
import java.util.stream.Collectors;
import java.util.stream.Stream;

/** LANGUAGE.md's rules 8 and 11, by the compiled classes: no recursion here, and calls at most eight deep. */
public final class DepthTest {
    private static final int DEEPEST = 8;
    private static final Pattern CLASS = Pattern.compile("class (AskNext\\S*?)(?: extends (AskNext\\S*))? \\{$");
    private static final Pattern METHOD = Pattern.compile("^  \\S.*?([\\w$.]+)\\((.*)\\).*;$");
    private static final Pattern CALL = Pattern.compile("invoke(\\w+) .*// Method (?:(AskNext[\\w$]*)\\.)?\"?([\\w<>]+)\"?:(\\(.*)");

    private final Checks checks = new Checks();
    private final Map<String, String> above = new HashMap<>();
    private final Map<String, Set<String>> calls = new HashMap<>();
    private final Map<String, Integer> depths = new HashMap<>();
    private final Set<String> open = new HashSet<>();

    public static void main(String[] args) throws Exception {
        DepthTest test = new DepthTest();
        test.readClasses(Path.of(AskNext.class.getProtectionDomain().getCodeSource().getLocation().toURI()));
        test.measure();
        test.checks.end("DepthTest");
    }

    private void readClasses(Path folder) throws Exception {
        List<String> files;
        try (Stream<Path> all = Files.list(folder)) {
            files = all.map(Path::toString).filter(f -> f.matches(".*[/\\\\]AskNext(\\$.*)?\\.class"))
                    .collect(Collectors.toList());
        }
        for (String file : files) {
            StringWriter text = new StringWriter();
            ToolProvider.findFirst("javap").orElseThrow()
                    .run(new PrintWriter(text), new PrintWriter(System.err), "-p", "-c", "-s", file);
            readClass(text.toString().split("\n"));
        }
    }

    private void readClass(String[] lines) {
        String name = "";
        String method = "";
        String declared = "";
        for (String line : lines) {
            Matcher m = CLASS.matcher(line);
            if (m.find()) {
                name = m.group(1);
                above.put(name, m.group(2) == null ? "" : m.group(2));
            } else if ((m = METHOD.matcher(line)).find()) {
                declared = m.group(1).startsWith("AskNext") ? "<init>" : m.group(1);
            } else if (line.startsWith("    descriptor: (")) {
                method = name + "." + declared + ":" + line.substring(16);
                calls.put(method, new HashSet<>());
            } else if ((m = CALL.matcher(line)).find()) {
                String to = m.group(2) == null ? name : m.group(2);
                // a call of super or of a constructor means that one method, not those in its place below
                String exactly = m.group(1).equals("special") ? "!" : "";
                calls.get(method).add(exactly + to + "." + m.group(3) + ":" + m.group(4).trim());
            }
        }
    }

    private void measure() {
        checks.isTrue("methods were found", calls.size() > 100);
        int edges = 0;
        for (String method : Set.copyOf(calls.keySet())) {
            edges += calls.get(method).size();
            int depth = depthOf(method);
            checks.isTrue(method + " goes " + depth + " deep", depth <= DEEPEST);
        }
        checks.isTrue("calls were found", edges > 100);
        System.out.println("the deepest calls: " + depths.values().stream().max(Integer::compare).orElse(0));
    }

    private int depthOf(String method) {
        Integer known = depths.get(method);
        if (known != null) {
            return known;
        }
        checks.isTrue("no recursion by " + method, open.add(method));
        int deepest = 0;
        for (String called : calls.get(method)) {
            for (String target : targets(called)) {
                deepest = Math.max(deepest, open.contains(target) ? 1000 : depthOf(target));
            }
        }
        open.remove(method);
        depths.put(method, deepest + 1);
        return deepest + 1;
    }

    /** The method itself, or the one it is inherited from, and all that stand in its place below. */
    private Set<String> targets(String called) {
        Set<String> found = new HashSet<>();
        boolean exactly = called.startsWith("!");
        int dot = called.indexOf('.');
        String name = called.substring(exactly ? 1 : 0, dot);
        String rest = called.substring(dot);
        for (String c = name; !c.isEmpty(); c = above.getOrDefault(c, "")) {
            if (calls.containsKey(c + rest)) {
                found.add(c + rest);
                break;
            }
        }
        if (!exactly) {
            for (String c : above.keySet()) {
                if (isBelow(c, name) && calls.containsKey(c + rest)) {
                    found.add(c + rest);
                }
            }
        }
        return found;
    }

    private boolean isBelow(String c, String name) {
        for (String up = above.getOrDefault(c, ""); !up.isEmpty(); up = above.getOrDefault(up, "")) {
            if (up.equals(name)) {
                return true;
            }
        }
        return false;
    }
}
