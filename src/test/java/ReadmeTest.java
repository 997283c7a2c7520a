import java.io.IOException;
import java.lang.reflect.Method;
import java.lang.reflect.Modifier;
import java.net.URL;
import java.net.URLClassLoader;
import java.nio.file.Files;
import java.nio.file.Path;
import java.util.ArrayList;
import java.util.List;
import java.util.function.BiConsumer;
import java.util.regex.Matcher;
import java.util.regex.Pattern;
import java.util.stream.Stream;
import javax.tools.ToolProvider;

/** The code in README.md compiles and answers as it says, and the page names every call and every test. */
public final class ReadmeTest {
    private static final Check CHECK = new Check();
    private static final Pattern BLOCK = Pattern.compile("```java\\n(.*?)```", Pattern.DOTALL);
    private static final Pattern ANSWER = Pattern.compile(
            "(mesh\\.\\w+\\(.*\\)); +// (-?\\d+|true|false|NONE|HIDDEN|throws NoSuchElementException)(:.*)?");

    public static void main(String[] args) throws Exception {
        String page = Files.readString(Path.of("README.md"));
        namesAllCalls(page);
        namesAllTests(page);
        runsAsTold(page);
        CHECK.end("ReadmeTest");
    }

    private static void namesAllCalls(String page) {
        for (Method m : HoppingMesh.class.getDeclaredMethods()) {
            if (Modifier.isPublic(m.getModifiers())) {
                boolean named = Pattern.compile("(`|mesh\\.)" + m.getName() + "\\(").matcher(page).find();
                CHECK.due("the page names " + m.getName(), true, named);
            }
        }
    }

    private static void namesAllTests(String page) throws IOException {
        List<String> tests = new ArrayList<>();
        try (Stream<Path> files = Files.list(Path.of("src/test/java"))) {
            files.map(f -> f.getFileName().toString().replace(".java", "")).filter(f -> f.endsWith("Test"))
                    .forEach(tests::add);
        }
        for (String test : tests) {
            CHECK.due("the page names " + test, true, page.contains("`" + test + "`"));
        }
        Matcher named = Pattern.compile("`(\\w+Test)`").matcher(page);
        while (named.find()) {
            CHECK.due("there is a test " + named.group(1), true, tests.contains(named.group(1)));
        }
    }

    private static void runsAsTold(String page) throws Exception {
        Path out = Files.createTempDirectory("readme");
        Path source = out.resolve("ReadmeCode.java");
        Files.writeString(source, program(page));
        Path classes = Path.of(HoppingMesh.class.getProtectionDomain().getCodeSource().getLocation().toURI());
        int failed = ToolProvider.getSystemJavaCompiler().run(null, null, null, "-cp", classes.toString(),
                "-d", out.toString(), source.toString());
        CHECK.due("the code on the page compiles", 0, failed);
        if (failed == 0) {
            try (URLClassLoader loader = new URLClassLoader(new URL[] {out.toUri().toURL()})) {
                List<String> calls = new ArrayList<>();
                BiConsumer<String, long[]> answers = (call, wantAndGot) -> {
                    calls.add(call);
                    CHECK.due(call, wantAndGot[0], wantAndGot[1]);
                };
                loader.loadClass("ReadmeCode").getMethod("run", BiConsumer.class).invoke(null, answers);
                CHECK.due("answers are told", true, calls.size() > 40);
            }
        }
        try (Stream<Path> files = Files.list(out)) {
            for (Path file : files.toList()) {
                Files.delete(file);
            }
        }
        Files.delete(out);
    }

    /** Blocks that begin with a method become members, all others are run in their order on the same objects. */
    private static String program(String page) {
        StringBuilder members = new StringBuilder();
        StringBuilder body = new StringBuilder();
        Matcher block = BLOCK.matcher(page);
        while (block.find()) {
            if (block.group(1).startsWith("static ")) {
                members.append(block.group(1));
            } else {
                block.group(1).lines().forEach(line -> body.append(statement(line)).append('\n'));
            }
        }
        return "import java.util.NoSuchElementException;\nimport java.util.function.BiConsumer;\n"
                + "public final class ReadmeCode {\n"
                + "static final int NONE = HoppingMesh.NONE;\nstatic final int HIDDEN = HoppingMesh.HIDDEN;\n"
                + "static BiConsumer<String, long[]> answers;\n"
                + "static void due(String call, long want, long got) {\n"
                + "answers.accept(call, new long[] {want, got});\n}\n"
                + "static void due(String call, boolean want, boolean got) {\n"
                + "due(call, want ? 1 : 0, got ? 1 : 0);\n}\n"
                + members + "public static void run(BiConsumer<String, long[]> all) {\nanswers = all;\n"
                + body + "}\n}\n";
    }

    private static String statement(String line) {
        Matcher told = ANSWER.matcher(line);
        if (!told.matches()) {
            CHECK.due("an answer is told: " + line, false, line.startsWith("mesh."));
            return line;
        }
        String call = told.group(1);
        String name = "\"" + call + "\"";
        if (!told.group(2).startsWith("throws")) {
            return "due(" + name + ", " + told.group(2) + ", " + call + ");";
        }
        return "try { " + call + "; due(\"throws in \" + " + name + ", 1, 0); } catch (NoSuchElementException e) { due("
                + name + ", 1, 1); }";
    }
}
