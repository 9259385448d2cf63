import java.io.File;
import java.io.IOException;
import java.lang.reflect.Method;
import java.lang.reflect.Modifier;
import java.net.URL;
import java.net.URLClassLoader;
import java.nio.file.Files;
import java.nio.file.Path;
import java.util.List;
import java.util.Set;
import java.util.TreeSet;
import java.util.regex.Matcher;
import java.util.regex.Pattern;
import javax.tools.JavaCompiler;
import javax.tools.ToolProvider;

// README.md: its calls are run as they stand there and must answer what is told behind them; what it names must be there.
public final class ReadmeTests {
    private static final Path README = Path.of("README.md");
    private static final Path MADE = Path.of("build/readme");
    private static final Pattern SHOWN = Pattern.compile("x\\.(\\w+)\\((.*)\\); +// (-?\\d+)(:? .*)?");
    private static final Pattern FILE = Pattern.compile("`((?:tests|src)/[\\w./]+\\.\\w+)`");

    private static int wrong = 0;

    private static void must(boolean holds, String what) {
        if (!holds) {
            wrong++;
            System.out.println("does not hold: " + what);
        }
    }

    /** The README's lines of Java, as one run of calls. */
    private static List<String> calls(String page) {
        StringBuilder code = new StringBuilder();
        Matcher block = Pattern.compile("(?s)```java\n(.*?)```").matcher(page);
        while (block.find()) {
            code.append(block.group(1));
        }
        return code.toString().lines().toList();
    }

    /** Each call that tells its answer is checked; what else stands there is run as it is. */
    private static String program(List<String> calls, Set<String> shown) {
        StringBuilder code = new StringBuilder("""
            public final class ReadmeCalls {
                private static String wrong = "";
                private static void due(String call, long got, long want) {
                    if (got != want) {
                        wrong += call + " answered " + got + ", README.md tells " + want + "; ";
                    }
                }
                public static String wrong() {
            """);
        for (String line : calls) {
            Matcher call = SHOWN.matcher(line);
            if (call.matches()) {
                shown.add(call.group(1));
                String made = "x." + call.group(1) + "(" + call.group(2) + ")";
                code.append("due(\"").append(made.replace("\"", "\\\"")).append("\", ").append(made).append(", ")
                        .append(call.group(3)).append("L);\n");
            } else {
                must(!line.startsWith("x.") && !line.contains("//"), "each call tells its answer: " + line);
                code.append(line).append('\n');
            }
        }
        return code.append("return wrong; } }\n").toString();
    }

    private static void run(String program) throws Exception {
        Files.createDirectories(MADE);
        Path source = MADE.resolve("ReadmeCalls.java");
        Files.writeString(source, program);
        JavaCompiler compiler = ToolProvider.getSystemJavaCompiler();
        must(compiler != null, "there is a compiler");
        if (compiler == null) {
            return;
        }
        String classes = System.getProperty("java.class.path");
        int failed = compiler.run(null, null, null, "-cp", classes, "-d", MADE.toString(), source.toString());
        must(failed == 0, "its calls can be compiled");
        if (failed == 0) {
            try (URLClassLoader loader = new URLClassLoader(new URL[] {MADE.toUri().toURL()})) {
                Object answer = loader.loadClass("ReadmeCalls").getMethod("wrong").invoke(null);
                must("".equals(answer), String.valueOf(answer));
            }
        }
    }

    private static void everyMethodIsShown(Set<String> shown) {
        for (Method method : GoneOverboard.class.getDeclaredMethods()) {
            if (Modifier.isPublic(method.getModifiers())) {
                must(shown.contains(method.getName()), method.getName() + " is shown with an answer");
            }
        }
    }

    private static void filesAreThere(String page) throws IOException {
        Set<String> named = new TreeSet<>();
        Matcher file = FILE.matcher(page);
        while (file.find()) {
            named.add(file.group(1));
            must(Files.isRegularFile(Path.of(file.group(1))), file.group(1) + " is there");
        }
        File[] tests = new File("tests").listFiles((folder, name) -> name.endsWith(".java"));
        must(tests != null && tests.length > 0, "there are tests");
        for (File test : tests == null ? new File[0] : tests) {
            must(named.contains("tests/" + test.getName()), "tests/" + test.getName() + " is told of");
        }
        must(page.contains("\n    .ci/run\n"), "how to run the tests is told");
        must(Files.isExecutable(Path.of(".ci/run")), ".ci/run can be run");
    }

    public static void main(String[] args) throws Exception {
        String page = Files.readString(README);
        Set<String> shown = new TreeSet<>();
        String program = program(calls(page), shown);
        run(program);
        everyMethodIsShown(shown);
        filesAreThere(page);
        System.out.println(wrong == 0 ? "the README holds" : wrong + " things in the README do not hold");
        if (wrong != 0) {
            System.exit(1);
        }
    }
}
