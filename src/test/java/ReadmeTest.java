import java.net.URL;
import java.net.URLClassLoader;
import java.nio.file.Files;
import java.nio.file.Path;
import java.util.ArrayList;
import java.util.List;
import java.util.TreeSet;
import java.util.regex.Matcher;
import java.util.regex.Pattern;
import java.lang.reflect.Method;
import java.lang.reflect.Modifier;
import javax.tools.JavaCompiler;
import javax.tools.ToolProvider;

/** What README.md shows as an example answers so when it is run, and it names every call and every test. */
public final class ReadmeTest {
    private static final Path README = Path.of("README.md");
    private static final Path TESTS = Path.of("src/test/java");
    private static final Pattern BLOCK = Pattern.compile("(?s)```java\n(.*?)```");
    /** A call of the example with the answer that is shown for it. */
    private static final Pattern SHOWN = Pattern.compile("(x\\.\\w+\\(.*?\\)); *// (-?[0-9]+|CreditShelf\\.[A-Z]+)\\b.*");

    private ReadmeTest() {
    }

    /** All of the example, as one: the later parts go on with the object of the first. */
    private static List<String> example(String readme) {
        List<String> lines = new ArrayList<>();
        Matcher m = BLOCK.matcher(readme);
        while (m.find()) {
            lines.addAll(List.of(m.group(1).split("\n")));
        }
        return lines;
    }

    /** A class that runs the example and keeps the answers beside those that are shown. */
    private static String program(List<String> lines, List<String> calls) {
        StringBuilder body = new StringBuilder();
        StringBuilder shown = new StringBuilder();
        for (String line : lines) {
            Matcher m = SHOWN.matcher(line);
            if (m.matches()) {
                body.append("got[").append(calls.size()).append("] = ").append(m.group(1)).append(";\n");
                shown.append(m.group(2)).append(", ");
                calls.add(m.group(1));
            } else {
                Check.holds("an answer is shown for " + line, !line.startsWith("x."));
                body.append(line).append('\n');
            }
        }
        return "public final class Example {\n public static long[][] run() {\n long[] got = new long[" + calls.size() + "];\n"
                + body + "return new long[][] {got, {" + shown + "}};\n }\n}\n";
    }

    private static long[][] run(String program) throws Exception {
        Path dir = Files.createTempDirectory("readme");
        Path file = dir.resolve("Example.java");
        Files.writeString(file, program);
        JavaCompiler compiler = ToolProvider.getSystemJavaCompiler();
        int rc = compiler.run(null, null, null, "-cp", System.getProperty("java.class.path"), "-d", dir.toString(), file.toString());
        Check.due("the example compiles", rc, 0);
        try (URLClassLoader loader = new URLClassLoader(new URL[] {dir.toUri().toURL()})) {
            return (long[][]) loader.loadClass("Example").getMethod("run").invoke(null);
        } finally {
            for (String name : new String[] {"Example.java", "Example.class"}) {
                Files.deleteIfExists(dir.resolve(name));
            }
            Files.deleteIfExists(dir);
        }
    }

    private static void exampleAnswersSo(String readme) throws Exception {
        List<String> calls = new ArrayList<>();
        long[][] answers = run(program(example(readme), calls));
        Check.holds("there is an example", calls.size() >= 10);
        for (int i = 0; i < calls.size(); i++) {
            Check.due("README.md: " + calls.get(i), answers[0][i], answers[1][i]);
        }
    }

    private static void namesEveryCall(String readme) {
        TreeSet<String> names = new TreeSet<>();
        for (Method m : CreditShelf.class.getDeclaredMethods()) {
            if (Modifier.isPublic(m.getModifiers())) {
                names.add(m.getName());
            }
        }
        for (String name : names) {
            Check.holds("README.md tells of " + name, readme.contains("| `" + name + "("));
        }
    }

    private static void namesEveryTest(String readme) throws Exception {
        try (var files = Files.list(TESTS)) {
            for (Path file : files.toList()) {
                String name = file.getFileName().toString().replace(".java", "");
                Check.holds("README.md tells of " + name, !name.endsWith("Test") || readme.contains("`" + name + "`"));
            }
        }
    }

    public static void main(String[] args) throws Exception {
        String readme = Files.readString(README);
        exampleAnswersSo(readme);
        namesEveryCall(readme);
        namesEveryTest(readme);
        Check.end("ReadmeTest");
    }
}
