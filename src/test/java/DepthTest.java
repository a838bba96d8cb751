import java.io.PrintWriter;
import java.io.StringWriter;
import java.util.ArrayList;
import java.util.HashMap;
import java.util.List;
import java.util.Map;
import java.util.Optional;
import java.util.Set;
import java.util.TreeSet;
import java.util.regex.Matcher;
import java.util.regex.Pattern;
import java.util.spi.ToolProvider;

/** How deep the calls go, and what of the library they use, by the class files: LANGUAGE.md, rules 4, 8 and 11. */
public final class DepthTest {
    private static final int DEEPEST = 8;
    private static final Set<String> LIBRARY = Set.of("java/lang/Object.<init>", "[I.clone", "java/lang/Math.max",
            "java/lang/Math.min", "java/lang/Integer.bitCount", "java/lang/IndexOutOfBoundsException.<init>",
            "java/lang/IllegalArgumentException.<init>", "java/lang/IllegalStateException.<init>");

    private static final Pattern METHOD = Pattern.compile("  [^ ].*?([\\w$]+)\\(.*;");
    private static final Pattern CALL = Pattern.compile(".*// (?:Interface)?Method (.*?):\\(.*");

    private static final Checks check = new Checks();
    private static final Map<String, Set<String>> calls = new HashMap<>();
    private static final Map<String, Integer> depths = new HashMap<>();

    public static void main(String[] args) {
        Optional<ToolProvider> javap = ToolProvider.findFirst("javap");
        if (javap.isEmpty()) {
            System.out.println("DepthTest: not tried, this Java has no javap");
            return;
        }
        read(javap.get(), "CaveRelay");
        for (Class<?> c : CaveRelay.class.getDeclaredClasses()) {
            read(javap.get(), c.getName());
        }
        check.hold("methods were found: " + calls.size(), calls.size() > 100);
        int deepest = 0;
        for (String method : calls.keySet()) {
            int depth = depth(method, new ArrayList<>());
            check.hold("calls go too deep: " + method + " " + depth, depth <= DEEPEST);
            deepest = Math.max(deepest, depth);
        }
        check.hold("calls were found", deepest > 4);
        check.end("DepthTest");
    }

    private static void read(ToolProvider javap, String name) {
        StringWriter told = new StringWriter();
        PrintWriter out = new PrintWriter(told);
        String path = System.getProperty("java.class.path");
        check.same("javap of " + name, 0, javap.run(out, out, "-c", "-p", "-cp", path, name));
        check.hold("a call whose method is chosen as it runs", !told.toString().contains("invokedynamic"));
        Set<String> called = new TreeSet<>();
        for (String line : told.toString().split("\n")) {
            Matcher method = METHOD.matcher(line);
            Matcher call = CALL.matcher(line);
            if (method.matches()) {
                String own = name.endsWith(method.group(1)) ? "<init>" : method.group(1);
                called = calls.computeIfAbsent(name + "." + own, m -> new TreeSet<>());
            } else if (call.matches()) {
                String to = call.group(1).replace("\"", "");
                called.add(to.contains(".") ? to : name + "." + to);
            }
        }
    }

    /** How many methods stand open at once at most from this one on, without those of the library. */
    private static int depth(String method, List<String> open) {
        if (depths.containsKey(method)) {
            return depths.get(method);
        }
        if (!calls.containsKey(method)) {
            check.hold("not of the library that is left: " + method, LIBRARY.contains(method));
            return 0;
        }
        if (open.contains(method)) {
            check.hold("a recursion: " + method, false);
            return 0;
        }
        open.add(method);
        int deepest = 0;
        for (String to : calls.get(method)) {
            deepest = Math.max(deepest, depth(to, open));
        }
        open.remove(method);
        depths.put(method, deepest + 1);
        return deepest + 1;
    }
}
