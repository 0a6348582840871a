import java.io.IOException;
import java.lang.reflect.Method;
import java.lang.reflect.Modifier;
import java.net.URL;
import java.net.URLClassLoader;
import java.nio.file.Files;
import java.nio.file.Path;
import java.util.ArrayList;
import java.util.List;
import java.util.TreeSet;
import java.util.regex.Matcher;
import java.util.regex.Pattern;
import java.util.stream.Collectors;
import java.util.stream.Stream;
import javax.tools.JavaCompiler;
import javax.tools.ToolProvider;

/** README.md: its Java compiles and answers as it shows, each call of the face is shown, each test is listed. */
public final class ReadmeTest {
    private static final Path PAGE = Path.of("README.md");
    private static final Path TESTS = Path.of("src/test/java");
    private static final Pattern CALL = Pattern.compile("^\\s*(x\\.(\\w+)\\(.*\\));\\s*(?://\\s*(.*))?$");
    private static final Pattern ANSWER = Pattern.compile("^(-?\\d+|[A-Z]+(?: \\+ [A-Z]+)?)(?::.*)?$");
    /** Stands in a loop over a text, so it has no one answer. */
    private static final String IN_LOOP = "x.say(sign)";
    private static final Checks c = new Checks();

    public static void main(String[] args) throws IOException, ReflectiveOperationException {
        List<String> page = Files.readAllLines(PAGE);
        List<String> calls = new ArrayList<>();
        String source = sourceOf(page, calls);
        answersAreSo(page, source);
        everyCallIsShown(calls);
        everyTestIsListed(page);
        c.end();
    }

    /** A class of the page's Java, each block in a scope of its own, that gathers line, answer and what is shown. */
    private static String sourceOf(List<String> page, List<String> calls) {
        StringBuilder source = new StringBuilder("public final class Shown {\n");
        source.append("public static void run(java.util.List<long[]> got) {\n");
        boolean inJava = false;
        for (int i = 0; i < page.size(); i++) {
            String line = page.get(i);
            if (line.startsWith("```")) {
                source.append(inJava ? "}\n" : line.equals("```java") ? "{\n" : "");
                inJava = !inJava && line.equals("```java");
            } else if (inJava) {
                source.append(gathered(i, line, calls)).append('\n');
            }
        }
        return source.append("}\n}\n").toString();
    }

    private static String gathered(int at, String line, List<String> calls) {
        Matcher call = CALL.matcher(line);
        if (!call.matches()) {
            return line;
        }
        calls.add(call.group(2));
        if (call.group(1).equals(IN_LOOP)) {
            return line;
        }
        Matcher answer = ANSWER.matcher(call.group(3) == null ? "" : call.group(3));
        boolean shown = answer.matches();
        c.due("README.md line " + (at + 1) + " shows an answer", shown ? 1 : 0, 1);
        String want = shown ? answer.group(1).replaceAll("[A-Z]+", "SaintsAhead.$0") : "0";
        return "got.add(new long[] {" + at + ", " + call.group(1) + ", " + want + "});";
    }

    private static void answersAreSo(List<String> page, String source) throws IOException, ReflectiveOperationException {
        Path dir = Files.createTempDirectory("readme");
        Path file = dir.resolve("Shown.java");
        Path made = dir.resolve("Shown.class");
        try {
            Files.writeString(file, source);
            JavaCompiler compiler = ToolProvider.getSystemJavaCompiler();
            c.due("there is a compiler", compiler == null ? 0 : 1, 1);
            int failed = compiler == null ? 1 : compiler.run(null, null, null, "--release", "17", "-d", dir.toString(),
                    "-cp", System.getProperty("java.class.path"), file.toString());
            c.due("compiling the page's Java", failed, 0);
            if (failed == 0) {
                hold(page, run(dir));
            }
        } finally {
            Files.deleteIfExists(made);
            Files.deleteIfExists(file);
            Files.deleteIfExists(dir);
        }
    }

    private static List<long[]> run(Path dir) throws IOException, ReflectiveOperationException {
        List<long[]> got = new ArrayList<>();
        try (URLClassLoader loader = new URLClassLoader(new URL[] {dir.toUri().toURL()},
                ReadmeTest.class.getClassLoader())) {
            loader.loadClass("Shown").getMethod("run", List.class).invoke(null, got);
        }
        return got;
    }

    private static void hold(List<String> page, List<long[]> got) {
        c.due("the page shows answers", got.isEmpty() ? 0 : 1, 1);
        for (long[] one : got) {
            c.due("README.md line " + (one[0] + 1) + ": " + page.get((int) one[0]).trim(), one[1], one[2]);
        }
    }

    private static void everyCallIsShown(List<String> calls) {
        TreeSet<String> missing = new TreeSet<>();
        for (Method m : SaintsAhead.class.getDeclaredMethods()) {
            if (Modifier.isPublic(m.getModifiers())) {
                missing.add(m.getName());
            }
        }
        missing.removeAll(calls);
        c.due("calls that README.md does not show: " + missing, missing.size(), 0);
    }

    private static void everyTestIsListed(List<String> page) throws IOException {
        String table = page.stream().filter(line -> line.startsWith("|")).collect(Collectors.joining());
        try (Stream<Path> files = Files.list(TESTS)) {
            List<String> missing = files.map(f -> f.getFileName().toString())
                    .filter(n -> n.endsWith("Test.java") && !table.contains("`" + n.replace(".java", "") + "`"))
                    .sorted().collect(Collectors.toList());
            c.due("tests that README.md does not list: " + missing, missing.size(), 0);
        }
    }
}
