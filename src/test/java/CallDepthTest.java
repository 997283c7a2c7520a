import java.io.PrintWriter;
import java.io.StringWriter;
import java.nio.file.Path;
import java.util.HashMap;
import java.util.Map;
import java.util.Set;
import java.util.TreeSet;
import java.util.regex.Matcher;
import java.util.regex.Pattern;
import java.util.spi.ToolProvider;

/**
 * LANGUAGE.md, rules 8 and 11: no call of the face goes more than eight deep, and none comes back to itself;
 * rule 4: of the library nothing is called but what is written down here.
 */
public final class CallDepthTest {
    private static final Check CHECK = new Check();
    private static final int DEEPEST = 8;
    private static final Set<String> LIBRARY = Set.of("java.lang.Object.<init>", "java.lang.Math.max",
            "java.lang.Math.min", "java.lang.String.indexOf", "java.lang.String.length", "java.lang.System.arraycopy",
            "java.util.Arrays.fill", "java.util.NoSuchElementException.<init>");
    private static final Pattern METHOD = Pattern.compile("^  \\S.*?([\\w$.]+)\\(.*\\).*;$");
    private static final Pattern CALL = Pattern.compile("// (?:Interface)?Method (\\S+):");

    private final Map<String, TreeSet<String>> calls = new HashMap<>();

    public static void main(String[] args) throws Exception {
        CallDepthTest test = new CallDepthTest();
        Path classes = Path.of(HoppingMesh.class.getProtectionDomain().getCodeSource().getLocation().toURI());
        test.read("HoppingMesh", classes);
        for (Class<?> c : HoppingMesh.class.getDeclaredClasses()) {
            test.read(c.getName(), classes);
        }
        CHECK.due("methods are found", true, test.calls.size() > 100);
        int deepest = 0;
        for (String method : test.calls.keySet()) {
            int depth = test.depth(method, 1);
            deepest = Math.max(deepest, depth);
            CHECK.due(method + " goes " + depth + " deep", true, depth <= DEEPEST);
        }
        CHECK.due("calls are found", true, deepest > 4);
        test.calls.forEach(CallDepthTest::callsOnlyKnown);
        CHECK.end("CallDepthTest");
    }

    private void read(String name, Path classes) {
        StringWriter text = new StringWriter();
        PrintWriter out = new PrintWriter(text);
        ToolProvider javap = ToolProvider.findFirst("javap").orElseThrow();
        CHECK.due("javap of " + name, 0, javap.run(out, out, "-c", "-p", classes.resolve(name + ".class").toString()));
        String method = "";
        for (String line : text.toString().split("\\R")) {
            Matcher declared = METHOD.matcher(line);
            Matcher called = CALL.matcher(line);
            if (declared.find()) {
                String last = declared.group(1);
                method = name + "." + (last.equals(name) ? "<init>" : last);
                calls.put(method, new TreeSet<>());
            } else if (called.find() && calls.containsKey(method)) {
                String target = called.group(1).replace("\"", "").replace('/', '.');
                calls.get(method).add(target.contains(".") ? target : name + "." + target);
            }
            CHECK.due(method + " makes no call at run time", false, line.contains("InvokeDynamic"));
        }
    }

    private static void callsOnlyKnown(String method, Set<String> targets) {
        for (String target : targets) {
            boolean known = target.startsWith("HoppingMesh") || LIBRARY.contains(target);
            CHECK.due(method + " may call " + target, true, known);
        }
    }

    private int depth(String method, int open) {
        if (open > 20) {
            return open;
        }
        int most = 1;
        for (String target : calls.get(method)) {
            if (calls.containsKey(target)) {
                most = Math.max(most, 1 + depth(target, open + 1));
            }
        }
        return most;
    }
}
