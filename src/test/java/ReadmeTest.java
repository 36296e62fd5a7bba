import java.io.IOException;
import java.lang.reflect.Field;
import java.lang.reflect.InvocationTargetException;
import java.lang.reflect.Method;
import java.lang.reflect.Modifier;
import java.net.URL;
import java.net.URLClassLoader;
import java.nio.file.Files;
import java.nio.file.Path;
import java.util.ArrayList;
import java.util.Comparator;
import java.util.List;
import java.util.regex.Matcher;
import java.util.regex.Pattern;
import java.util.stream.Collectors;
import java.util.stream.Stream;
import javax.tools.ToolProvider;

/** README.md: its examples compile and answer what they say, and it names every call, constant and test. */
public final class ReadmeTest {
    private static final Due due = new Due("ReadmeTest");
    private static final Path README = Path.of("README.md");
    private static final Path TESTS = Path.of("src/test/java");
    private static final Pattern BLOCK = Pattern.compile("```java\\n(.*?)```", Pattern.DOTALL);
    /** A call of the object, with what it answers behind '//'. */
    private static final Pattern TOLD = Pattern.compile("((?:int|long) \\w+ = )?(sea\\.\\w+\\(.*\\));\\s*// (-?\\d+)\\b.*");

    /** What the examples answered, in their order; they are compiled against this class. */
    public static final List<Long> ANSWERS = new ArrayList<>();

    public static void main(String[] args) throws Exception {
        String text = Files.readString(README);
        examples(text);
        calls(text);
        constants(text);
        tests(text);
        due.end();
    }

    /** The examples call it: keeps an answer, and hands it on. */
    public static int answered(int answer) {
        ANSWERS.add((long) answer);
        return answer;
    }

    private static void holds(String what, boolean does) {
        due.same(what, does ? 1 : 0, 1);
    }

    // ---- its examples

    private static void examples(String text) throws Exception {
        Matcher block = BLOCK.matcher(text);
        int number = 0;
        while (block.find()) {
            number++;
            example(number, block.group(1));
        }
        holds("README.md has examples", number > 0);
    }

    private static void example(int number, String code) throws Exception {
        List<String> calls = new ArrayList<>();
        List<Long> wanted = new ArrayList<>();
        StringBuilder body = new StringBuilder();
        for (String line : code.split("\n")) {
            Matcher told = TOLD.matcher(line);
            if (told.matches()) {
                calls.add(told.group(2));
                wanted.add(Long.parseLong(told.group(3)));
                String start = told.group(1) == null ? "" : told.group(1);
                line = start + "ReadmeTest.answered(" + told.group(2) + ");";
            }
            body.append(line).append('\n');
        }
        holds("example " + number + " tells answers", !calls.isEmpty());
        ANSWERS.clear();
        run(number, body.toString());
        due.same("example " + number + ": how many answers", ANSWERS.size(), calls.size());
        for (int i = 0; i < calls.size() && i < ANSWERS.size(); i++) {
            due.same("example " + number + ": " + calls.get(i), ANSWERS.get(i), wanted.get(i));
        }
    }

    private static void run(int number, String body) throws Exception {
        Path folder = Files.createTempDirectory("readme");
        try {
            String name = "Example" + number;
            Path file = folder.resolve(name + ".java");
            Files.writeString(file, "public class " + name + " { public static void run() {\n" + body + "} }\n");
            int failed = ToolProvider.getSystemJavaCompiler().run(null, null, null, "-encoding", "UTF-8", "-d",
                    folder.toString(), "-cp", System.getProperty("java.class.path"), file.toString());
            due.same("example " + number + " compiles", failed, 0);
            if (failed == 0) {
                call(folder, name);
            }
        } finally {
            remove(folder);
        }
    }

    private static void call(Path folder, String name) throws IOException, ReflectiveOperationException {
        URL[] urls = {folder.toUri().toURL()};
        try (URLClassLoader loader = new URLClassLoader(urls, ReadmeTest.class.getClassLoader())) {
            loader.loadClass(name).getMethod("run").invoke(null);
        } catch (InvocationTargetException thrown) {
            holds(name + " throws nothing, but " + thrown.getCause(), false);
        }
    }

    private static void remove(Path folder) throws IOException {
        List<Path> all;
        try (Stream<Path> paths = Files.walk(folder)) {
            all = paths.sorted(Comparator.reverseOrder()).collect(Collectors.toList());
        }
        for (Path path : all) {
            Files.delete(path);
        }
    }

    // ---- what it names

    private static void calls(String text) {
        for (Method method : WheatSea.class.getDeclaredMethods()) {
            if (Modifier.isPublic(method.getModifiers())) {
                String row = "(?s).*\\n\\| `" + method.getName() + "\\(" + numbers(method.getParameterCount())
                        + "\\)` \\|.*";
                holds("README.md has a row for " + method.getName(), text.matches(row));
            }
        }
    }

    private static String numbers(int many) {
        return many == 0 ? "" : "\\w+" + ", \\w+".repeat(many - 1);
    }

    private static void constants(String text) throws IllegalAccessException {
        for (Field field : WheatSea.class.getFields()) {
            String row = "| `" + field.getName() + "` | " + field.getInt(null) + " |";
            String words = "`" + field.getName() + "` (" + field.getInt(null) + ")";
            holds("README.md tells " + words, text.contains(row) || text.contains(words));
        }
    }

    private static void tests(String text) throws IOException {
        List<String> names;
        try (Stream<Path> paths = Files.list(TESTS)) {
            names = paths.map(path -> path.getFileName().toString().replace(".java", ""))
                    .filter(name -> name.endsWith("Test")).sorted().collect(Collectors.toList());
        }
        for (String name : names) {
            holds("README.md names " + name, text.contains("`" + name + "`"));
        }
        Matcher named = Pattern.compile("`(\\w+Test)`").matcher(text);
        while (named.find()) {
            holds("there is a " + named.group(1), names.contains(named.group(1)));
        }
        for (String path : List.of(".ci/run", "src/main/java/WheatSea.java", "../shared/DOC.md",
                "../shared/LANGUAGE.md", "../shared/tests")) {
            holds("README.md names " + path + ", and it is there", text.contains(path) && Files.exists(Path.of(path)));
        }
    }
}
