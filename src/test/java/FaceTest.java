import java.io.IOException;
import java.lang.reflect.Constructor;
import java.lang.reflect.Field;
import java.lang.reflect.Method;
import java.lang.reflect.Modifier;
import java.nio.file.Files;
import java.nio.file.Path;
import java.util.Arrays;
import java.util.List;
import java.util.TreeSet;

/** The public face is the document's and no other, and the source keeps to what can be seen of LANGUAGE.md. */
public final class FaceTest {
    private static final Check CHECK = new Check();
    private static final String FACE = "int feed(int,int,int,int,int); boolean end(int); int fault(int); int text(int);"
            + " int rule(int); int pair(int,int); int cell(int,int,int,int); int waits(int,int,int); int letter(int,int);"
            + " int channel(int,int); boolean loss(int); int frames(int); int deal(int,int,int); int lose(int);"
            + " int jam(int); int load(int,int); int auto(); int years(int,long); int status(int); int undo();"
            + " int log(int,int); int offer(int,int,int,int); int comes(int,int,int); int agree(int); int healed();"
            + " int steady(); int harm(int,int); int odds(int,int); int shares(int,int); int node(int,int);"
            + " int most(int); int image(); int back(); int count(int)";

    public static void main(String[] args) throws IOException {
        members();
        nestedClasses();
        source();
        CHECK.end("FaceTest");
    }

    private static String told(Method m) {
        StringBuilder s = new StringBuilder(m.getReturnType() + " " + m.getName() + "(");
        for (Class<?> c : m.getParameterTypes()) {
            s.append(s.charAt(s.length() - 1) == '(' ? "" : ",").append(c.getName());
        }
        return s.append(")").toString();
    }

    private static void members() {
        Class<?> c = HoppingMesh.class;
        CHECK.due("public and final", Modifier.PUBLIC | Modifier.FINAL, c.getModifiers());
        TreeSet<String> due = new TreeSet<>(Arrays.asList(FACE.split("; ")));
        TreeSet<String> got = new TreeSet<>();
        TreeSet<String> names = new TreeSet<>();
        for (Method m : c.getDeclaredMethods()) {
            if (Modifier.isPublic(m.getModifiers())) {
                got.add(told(m));
                names.add(m.getName());
                int throwing = m.getName().equals("pair") ? 1 : 0;
                CHECK.due(m.getName() + " throws", throwing, m.getExceptionTypes().length);
            }
        }
        CHECK.due("the face " + got, true, due.equals(got));
        for (Method m : c.getDeclaredMethods()) {
            if (!Modifier.isPublic(m.getModifiers())) {
                CHECK.due(m.getName() + " is private", true, Modifier.isPrivate(m.getModifiers()));
                CHECK.due(m.getName() + " is no name of the face", false, names.contains(m.getName()));
            }
        }
        for (Field f : c.getDeclaredFields()) {
            boolean constant = List.of("NONE", "HIDDEN").contains(f.getName());
            CHECK.due(f.getName() + " is private", !constant, Modifier.isPrivate(f.getModifiers()));
            CHECK.due(f.getName() + " is public", constant, Modifier.isPublic(f.getModifiers()));
        }
        Constructor<?>[] made = c.getDeclaredConstructors();
        CHECK.due("constructors", 1, made.length);
        CHECK.due("no arguments", 0, made[0].getParameterCount());
        CHECK.due("NONE", -1, HoppingMesh.NONE);
        CHECK.due("HIDDEN", -1000000, HoppingMesh.HIDDEN);
    }

    private static void nestedClasses() {
        Class<?>[] inside = HoppingMesh.class.getDeclaredClasses();
        CHECK.due("at most twelve classes", true, inside.length + 1 <= 12);
        for (Class<?> c : inside) {
            CHECK.due(c + " is static", true, Modifier.isStatic(c.getModifiers()));
            CHECK.due(c + " is private", true, Modifier.isPrivate(c.getModifiers()));
            long fields = Arrays.stream(c.getDeclaredFields()).filter(f -> !Modifier.isStatic(f.getModifiers())).count();
            CHECK.due(c + " has at most twenty fields", true, fields <= 20);
            for (Method m : c.getDeclaredMethods()) {
                CHECK.due(m + " takes at most seven", true, m.getParameterCount() <= 7);
                CHECK.due(m + " is no name of the face", false, FACE.contains(" " + m.getName() + "("));
            }
        }
    }

    private static void source() throws IOException {
        String text = Files.readString(Path.of("src/main/java/HoppingMesh.java"));
        String[] ruledOut = {"catch", "try", "finally", "->", "::", "synchronized", "assert ", "System.currentTimeMillis",
            "System.nanoTime", "Random", "Exact(", "getClass", "hashCode", "package ", "instanceof", " + \""};
        for (String word : ruledOut) {
            CHECK.due("no " + word, false, text.contains(word));
        }
        int throwing = 0;
        int length = 0;
        boolean inMethod = false;
        for (String line : text.split("\n")) {
            throwing += line.contains("throw new") ? 1 : 0;
            if (line.startsWith("import ")) {
                CHECK.due(line, true, line.matches("import java\\.util\\.(Arrays|NoSuchElementException);"));
            }
            if (line.matches(" {4,8}(private |public |static )*[\\w\\[\\]]+ \\w+\\(.*\\{")) {
                inMethod = true;
                length = 0;
            }
            length++;
            if (inMethod && line.matches(" {4,8}}")) {
                CHECK.due("a method of " + length + " lines", true, length <= 60);
                inMethod = false;
            }
            CHECK.due("signs of " + line, true, line.chars().allMatch(c -> c < 128));
        }
        CHECK.due("one throw", 1, throwing);
    }
}
