import java.io.PrintWriter;
import java.io.StringWriter;
import java.util.ArrayList;
import java.util.List;
import java.util.Map;
import java.util.Optional;
import java.util.Set;
import java.util.TreeMap;
import java.util.TreeSet;
import java.util.regex.Matcher;
import java.util.regex.Pattern;
import java.util.spi.ToolProvider;

/** The rules of LANGUAGE.md that the compiled class shows; what javap writes of it is read. */
public final class BytecodeTest {
    private static final int DEEPEST = 8;
    private static final Pattern METHOD = Pattern.compile("  (?:\\w+ )*\\S*?([\\w$]+)\\(.*\\);");
    private static final Pattern CALLED = Pattern.compile(".*: invoke\\w+ .*// (?:Interface)?Method (\\S+):.*");
    private static final Pattern MADE = Pattern.compile(".*: (new|newarray|anewarray|multianewarray|invokedynamic) .*");
    private static final Check CHECK = new Check();

    private final Map<String, Set<String>> calls = new TreeMap<>();
    private final Map<String, Integer> depths = new TreeMap<>();
    private final List<String> makers = new ArrayList<>();

    public static void main(String[] args) {
        Optional<ToolProvider> javap = ToolProvider.findFirst("javap");
        if (javap.isEmpty()) {
            System.out.println("BytecodeTest: no javap here, nothing is looked at");
            return;
        }
        BytecodeTest test = new BytecodeTest();
        test.read(javap.get(), WhiteRoads.class);
        for (Class<?> c : WhiteRoads.class.getDeclaredClasses()) {
            test.read(javap.get(), c);
        }
        CHECK.due("methods were found: " + test.calls.size(), test.calls.size() > 26, true);
        for (String method : test.calls.keySet()) {
            int depth = test.depth(method, 0);
            CHECK.due(method + " goes eight deep at most: " + depth, depth <= DEEPEST, true);
        }
        CHECK.due("methods that make objects", test.makers.toString(), "[]");
        CHECK.finish("BytecodeTest");
    }

    private void read(ToolProvider javap, Class<?> c) {
        StringWriter written = new StringWriter();
        String path = System.getProperty("java.class.path");
        int code = javap.run(new PrintWriter(written), new PrintWriter(written), "-c", "-p", "-cp", path, c.getName());
        CHECK.due("javap of " + c.getName(), code, 0);
        String method = "";
        for (String line : written.toString().split("\\R")) {
            Matcher head = METHOD.matcher(line);
            Matcher called = CALLED.matcher(line);
            if (head.matches()) {
                boolean constructor = c.getName().endsWith(head.group(1));
                method = c.getName() + "." + (constructor ? "<init>" : head.group(1));
                calls.putIfAbsent(method, new TreeSet<>());
            } else if (line.contains("static {}")) {
                method = c.getName() + ".<clinit>";
            } else if (called.matches()) {
                calls.computeIfAbsent(method, m -> new TreeSet<>()).add(whole(called.group(1), c));
            } else if (MADE.matcher(line).matches() && !method.endsWith("<init>") && !method.endsWith("<clinit>")) {
                makers.add(method);
            }
        }
    }

    /** javap leaves out the class's own name. */
    private static String whole(String method, Class<?> c) {
        String name = method.replace("\"", "").replace('/', '.');
        return name.contains(".") ? name : c.getName() + "." + name;
    }

    /** How many calls stand open at once, the first and those of the library too. */
    private int depth(String method, int above) {
        Integer known = depths.get(method);
        if (known != null) {
            return known;
        }
        int deepest = 0;
        for (String other : calls.getOrDefault(method, Set.of())) {
            // a call that goes round in a ring is told as too deep
            deepest = Math.max(deepest, above > 50 ? 100 : depth(other, above + 1));
        }
        depths.put(method, deepest + 1);
        return deepest + 1;
    }
}
