import java.io.File;
import java.io.IOException;
import java.net.URL;
import java.net.URLClassLoader;
import java.nio.file.DirectoryStream;
import java.nio.file.Files;
import java.nio.file.Path;
import java.util.ArrayList;
import java.util.Comparator;
import java.util.List;
import java.util.TreeSet;
import java.util.regex.Matcher;
import java.util.regex.Pattern;
import java.util.stream.Stream;
import javax.tools.JavaCompiler;
import javax.tools.ToolProvider;

/** README.md: its code compiles, its calls answer as it says, its command and its list of tests are as they are. */
public final class ReadmeTest {
    private static final Path README = Path.of("README.md"), RUN = Path.of(".ci/run"), TESTS = Path.of("src/test/java");
    private static final Pattern BLOCK = Pattern.compile("(?ms)^```(\\w*)\n(.*?)^```$");
    private static final Pattern CALL =
        Pattern.compile("^((?:x\\.\\w+|tell)\\(.*\\));\\s*// (-?\\d+|NONE|BAD|STATE|FULL)(?::.*)?$");
    private static final Pattern LISTED = Pattern.compile("(?m)^\\| `(\\w+)` \\|");

    private static final Check check = new Check("ReadmeTest");

    public static void main(String[] args) throws Exception {
        String text = Files.readString(README);
        List<String> blocks = new ArrayList<>();
        List<String> commands = new ArrayList<>();
        Matcher block = BLOCK.matcher(text);
        while (block.find()) {
            check.holds("a block of code says what it is", !block.group(1).isEmpty());
            (block.group(1).equals("java") ? blocks : commands).add(block.group(2).trim());
        }
        listOfTests(text);
        command(commands);
        everyCallIsShown(text);
        runAll(source(blocks));
        check.end();
    }

    private static void listOfTests(String text) throws IOException {
        TreeSet<String> listed = new TreeSet<>();
        Matcher line = LISTED.matcher(text);
        while (line.find()) {
            if (line.group(1).endsWith("Test")) {
                listed.add(line.group(1));
            }
        }
        TreeSet<String> there = new TreeSet<>();
        try (DirectoryStream<Path> files = Files.newDirectoryStream(TESTS, "*Test.java")) {
            for (Path file : files) {
                there.add(file.getFileName().toString().replace(".java", ""));
            }
        }
        check.holds("the tests listed " + listed + " are those there " + there, listed.equals(there));
    }

    private static void command(List<String> commands) throws IOException {
        check.holds("one command is shown, .ci/run: " + commands, commands.equals(List.of(RUN.toString())));
        check.holds(".ci/run can be called", Files.isExecutable(RUN));
        String script = Files.readString(RUN);
        check.holds("it runs what the page says", script.contains("src/test/java/*Test.java")
            && script.contains("../shared/tests") && script.contains("passed, $failed failed"));
    }

    /** Whoever reads the page has seen each call of the face at work once. */
    private static void everyCallIsShown(String text) {
        for (java.lang.reflect.Method method : WinkCircle.class.getMethods()) {
            if (method.getDeclaringClass() == WinkCircle.class) {
                check.holds("the page shows " + method.getName(), text.contains("x." + method.getName() + "("));
            }
        }
    }

    /** One class of all blocks: methods as they are, runs of calls each in a method that checks the answers. */
    private static String source(List<String> blocks) {
        StringBuilder members = new StringBuilder();
        StringBuilder runs = new StringBuilder();
        for (String block : blocks) {
            if (block.startsWith("static ")) {
                members.append(block).append('\n');
            } else {
                runs.append("{\n").append(checked(block)).append("}\n");
            }
        }
        return "final class ReadmeCode {\n" + members
            + "public static void main(String[] args) {\n"
            + "Check check = new Check(\"ReadmeTest, the page's code\");\n"
            + "int NONE = WinkCircle.NONE, BAD = WinkCircle.BAD, STATE = WinkCircle.STATE, FULL = WinkCircle.FULL;\n"
            + "Runs runs = new Runs(\"ReadmeTest, the page's runs\");\n"
            + runs + "check.end();\nruns.end();\n}\n}\n";
    }

    private static String checked(String block) {
        StringBuilder lines = new StringBuilder();
        for (String line : block.split("\n")) {
            Matcher call = CALL.matcher(line);
            if (call.matches()) {
                String quoted = call.group(1).replace("\"", "\\\"");
                lines.append("check.due(\"").append(quoted).append("\", ").append(call.group(1)).append(", ")
                    .append(call.group(2)).append(");\n");
            } else {
                check.holds("a call is shown with its answer: " + line, !line.startsWith("x.") && !line.startsWith("tell("));
                lines.append(line).append('\n');
            }
        }
        return lines.toString();
    }

    private static void runAll(String source) throws Exception {
        Path made = Files.createTempDirectory("readme");
        try {
            Path file = made.resolve("ReadmeCode.java");
            Files.writeString(file, source);
            String path = System.getProperty("java.class.path");
            JavaCompiler compiler = ToolProvider.getSystemJavaCompiler();
            int failed = compiler.run(null, null, null, "-cp", path, "-d", made.toString(), file.toString());
            check.due("the page's code compiles", failed, 0);
            if (failed == 0) {
                call(made, path);
            }
        } finally {
            delete(made);
        }
    }

    // One loader for all of it, since the page's code uses classes that only their own package sees.
    private static void call(Path made, String path) throws Exception {
        List<URL> places = new ArrayList<>(List.of(made.toUri().toURL()));
        for (String part : path.split(File.pathSeparator)) {
            places.add(Path.of(part).toUri().toURL());
        }
        try (URLClassLoader loader = new URLClassLoader(places.toArray(new URL[0]), ClassLoader.getPlatformClassLoader())) {
            java.lang.reflect.Method main = loader.loadClass("ReadmeCode").getDeclaredMethod("main", String[].class);
            main.setAccessible(true);
            main.invoke(null, (Object) new String[0]);
        }
    }

    private static void delete(Path made) throws IOException {
        try (Stream<Path> files = Files.walk(made)) {
            for (Path file : files.sorted(Comparator.reverseOrder()).toList()) {
                Files.delete(file);
            }
        }
    }
}
