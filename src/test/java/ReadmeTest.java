import java.io.IOException;
import java.lang.reflect.Method;
import java.lang.reflect.Modifier;
import java.net.URL;
import java.net.URLClassLoader;
import java.nio.file.Files;
import java.nio.file.Path;
import java.util.ArrayList;
import java.util.Comparator;
import java.util.List;
import java.util.Set;
import java.util.TreeSet;
import java.util.concurrent.Callable;
import java.util.regex.Matcher;
import java.util.regex.Pattern;
import java.util.stream.Collectors;
import java.util.stream.Stream;
import javax.tools.ToolProvider;

/** README.md: its calls, compiled and run as they stand there, and the tests that it names. */
public final class ReadmeTest {
    private static final Path README = Path.of("README.md");
    private static final Path TESTS = Path.of("src/test/java");
    // A variable that takes the answer or none, the call, the answer that is told, and what it means.
    private static final Pattern CALL = Pattern.compile(
            "((?:int|long|boolean|double) (\\w+) = )?(.+);\\s+// (throws \\w+|[^:\\s]+)(: .+)?");
    private static final Pattern NEW = Pattern.compile("FrameCommutator \\w+ = new FrameCommutator\\(\\);");
    private static final Pattern TEST_NAME = Pattern.compile("`(\\w+Test)`");

    public static void main(String[] args) throws Exception {
        List<String> page = Files.readAllLines(README);
        List<String> lines = javaLines(page);
        answers(lines);
        everyMethodIsShown(lines);
        testsAreNamed(page);
        Checks.finish("ReadmeTest");
    }

    private static List<String> javaLines(List<String> page) {
        List<String> lines = new ArrayList<>();
        boolean inside = false;
        for (String line : page) {
            if (line.startsWith("```")) {
                inside = line.equals("```java");
            } else if (inside) {
                lines.add(line);
            }
        }
        return lines;
    }

    private static void answers(List<String> lines) throws Exception {
        List<String> calls = new ArrayList<>();
        List<String> due = new ArrayList<>();
        StringBuilder body = new StringBuilder();
        for (String line : lines) {
            Matcher call = CALL.matcher(line);
            if (call.matches()) {
                calls.add(call.group(3));
                due.add(call.group(4));
                body.append(call.group(1) == null ? guarded(call.group(3)) : kept(line, call.group(2)));
            } else {
                boolean isNew = NEW.matcher(line).matches();
                Checks.same("README: a call with its answer, or a new object: " + line, isNew, true);
                body.append(line).append('\n');
            }
        }
        List<String> got = run(body.toString());
        Checks.same("README: answers", got.size(), due.size());
        for (int i = 0; i < Math.min(got.size(), due.size()); i++) {
            Checks.same("README: " + calls.get(i), got.get(i), due.get(i));
        }
    }

    private static String guarded(String call) {
        return "try { add(" + call + "); } catch (RuntimeException e) { addThrown(e); }\n";
    }

    private static String kept(String line, String variable) {
        return line + "\nadd(" + variable + ");\n";
    }

    /** Compiles the page's lines as one method, and answers what its calls answered. */
    private static List<String> run(String body) throws Exception {
        String program = "import java.util.*;\n"
                + "public final class ReadmeCalls implements java.util.concurrent.Callable<List<String>> {\n"
                + "private final List<String> answers = new ArrayList<>();\n"
                + "private void add(Object answer) { answers.add(String.valueOf(answer)); }\n"
                + "private void addThrown(RuntimeException e) {\n"
                + "add(\"throws \" + e.getClass().getSimpleName());\n}\n"
                + "public List<String> call() {\n" + body + "return answers;\n}\n}\n";
        Path folder = Files.createTempDirectory("readme");
        try {
            Path file = Files.writeString(folder.resolve("ReadmeCalls.java"), program);
            int code = ToolProvider.getSystemJavaCompiler().run(null, null, null, "--release", "17", "-cp",
                    System.getProperty("java.class.path"), "-d", folder.toString(), file.toString());
            Checks.same("README: javac of its calls", code, 0);
            return code == 0 ? call(folder) : List.of();
        } finally {
            delete(folder);
        }
    }

    private static List<String> call(Path folder) throws Exception {
        List<String> answers = new ArrayList<>();
        try (URLClassLoader loader = new URLClassLoader(new URL[] {folder.toUri().toURL()})) {
            Object calls = loader.loadClass("ReadmeCalls").getDeclaredConstructor().newInstance();
            for (Object answer : (List<?>) ((Callable<?>) calls).call()) {
                answers.add((String) answer);
            }
        }
        return answers;
    }

    private static void delete(Path folder) throws IOException {
        try (Stream<Path> below = Files.walk(folder)) {
            for (Path path : below.sorted(Comparator.reverseOrder()).toList()) {
                Files.delete(path);
            }
        }
    }

    private static void everyMethodIsShown(List<String> lines) {
        String all = String.join("\n", lines);
        for (Method method : FrameCommutator.class.getDeclaredMethods()) {
            if (Modifier.isPublic(method.getModifiers())) {
                boolean shown = all.contains("." + method.getName() + "(");
                Checks.same("README shows " + method.getName(), shown, true);
            }
        }
    }

    private static void testsAreNamed(List<String> page) throws IOException {
        Set<String> named = new TreeSet<>();
        for (String line : page) {
            Matcher name = TEST_NAME.matcher(line);
            while (name.find()) {
                named.add(name.group(1));
            }
        }
        Set<String> there;
        try (Stream<Path> files = Files.list(TESTS)) {
            there = files.map(file -> file.getFileName().toString())
                    .filter(name -> name.endsWith("Test.java"))
                    .map(name -> name.replace(".java", ""))
                    .collect(Collectors.toCollection(TreeSet::new));
        }
        Checks.same("README: the tests that it names", named, there);
        Checks.same("README: tells .ci/run", page.contains("    .ci/run"), true);
        Checks.same("README: .ci/run can be run", Files.isExecutable(Path.of(".ci/run")), true);
    }
}
