import java.io.IOException;
import java.io.StringWriter;
import java.lang.reflect.Method;
import java.lang.reflect.Modifier;
import java.net.URL;
import java.net.URLClassLoader;
import java.nio.file.Files;
import java.nio.file.Path;
import java.util.ArrayList;
import java.util.Comparator;
import java.util.List;
import java.util.regex.Matcher;
import java.util.regex.Pattern;
import java.util.stream.Stream;
import javax.tools.JavaCompiler;
import javax.tools.ToolProvider;

/**
 * The calls that README.md shows, compiled as they stand there, answer what stands behind them.
 * It is run from the project's root.
 */
public final class ReadmeTest {
    private static final Path README = Path.of("README.md");
    private static final Path TESTS = Path.of("src/test/java");
    private static final Path SCRIPT = Path.of(".ci/run");

    private static final Pattern ANSWER =
            Pattern.compile("\\s*int (\\w+) = (desk\\..*);\\s*// (-?\\d+)(: .*)?");
    private static final Pattern REFUSAL =
            Pattern.compile("\\s*(desk\\..*);\\s*// throws (\\w+)(: .*)?");
    private static final Pattern NO_ANSWER =
            Pattern.compile("\\s*|\\s*//.*|LoanDesk desk = new LoanDesk\\(\\);|desk\\.charge\\([^;]*\\);");

    private static int wrong = 0;
    private static int claims = 0;

    private static void complain(String what) {
        wrong++;
        System.out.println(what);
    }

    /** What stands in the Java blocks, one line behind the other. */
    private static List<String> javaLines(List<String> text) {
        List<String> found = new ArrayList<>();
        boolean inside = false;
        for (String line : text) {
            if (line.startsWith("```")) {
                inside = line.equals("```java");
            } else if (inside) {
                found.add(line);
            }
        }
        return found;
    }

    private static String quoted(String text) {
        return "\"" + text.replace("\\", "\\\\").replace("\"", "\\\"") + "\"";
    }

    /** The line as it stands, and what looks at its answer. */
    private static String checked(String line) {
        Matcher answer = ANSWER.matcher(line);
        if (answer.matches()) {
            claims++;
            return line + "\ndue(" + quoted(answer.group(2)) + ", " + answer.group(1) + ", " + answer.group(3) + ");\n";
        }
        Matcher refusal = REFUSAL.matcher(line);
        if (refusal.matches()) {
            claims++;
            String call = quoted(refusal.group(1));
            String want = refusal.group(2);
            return "try {\n" + line + "\nrefused(" + call + ", null, " + want + ".class);\n"
                    + "} catch (RuntimeException e) {\nrefused(" + call + ", e, " + want + ".class);\n}\n";
        }
        if (!NO_ANSWER.matcher(line).matches()) {
            complain("README.md does not tell what this answers: " + line);
        }
        return line + "\n";
    }

    private static String program(List<String> lines) {
        StringBuilder source = new StringBuilder();
        source.append("import java.util.NoSuchElementException;\n");
        source.append("public final class ReadmeCalls {\n");
        source.append("private static int wrong = 0;\n");
        source.append("private static void due(String call, int got, int want) {\n");
        source.append("if (got != want) { wrong++;\n");
        source.append("System.out.println(call + \" answered \" + got + \", README.md says \" + want); } }\n");
        source.append("private static void refused(String call, RuntimeException got, Class<?> want) {\n");
        source.append("if (got == null || got.getClass() != want) { wrong++;\n");
        source.append("System.out.println(call + \" threw \" + got + \", README.md says \" + want); } }\n");
        source.append("public static int run() {\n");
        for (String line : lines) {
            source.append(checked(line));
        }
        source.append("return wrong;\n}\n}\n");
        return source.toString();
    }

    private static boolean compile(Path source, Path classes) throws IOException {
        JavaCompiler compiler = ToolProvider.getSystemJavaCompiler();
        if (compiler == null) {
            complain("there is no compiler");
            return false;
        }
        StringWriter said = new StringWriter();
        boolean done = compiler.getTask(said, null, null,
                List.of("--release", "17", "-cp", System.getProperty("java.class.path"), "-d", classes.toString()),
                null, compiler.getStandardFileManager(null, null, null).getJavaFileObjects(source)).call();
        if (!done) {
            complain("what README.md shows does not compile:\n" + said);
        }
        return done;
    }

    private static void runCalls(List<String> text) throws Exception {
        Path room = Files.createTempDirectory("readme");
        try {
            Path source = room.resolve("ReadmeCalls.java");
            Files.writeString(source, program(javaLines(text)));
            if (claims == 0) {
                complain("README.md shows no call");
            }
            if (compile(source, room)) {
                URL[] classes = {room.toUri().toURL()};
                try (URLClassLoader loader = new URLClassLoader(classes, ReadmeTest.class.getClassLoader())) {
                    wrong += (int) loader.loadClass("ReadmeCalls").getMethod("run").invoke(null);
                }
            }
        } finally {
            try (Stream<Path> files = Files.walk(room)) {
                files.sorted(Comparator.reverseOrder()).forEach(file -> file.toFile().delete());
            }
        }
    }

    private static void namesEveryCall(List<String> text) {
        String shown = String.join("\n", javaLines(text));
        for (Method method : LoanDesk.class.getDeclaredMethods()) {
            if (!Modifier.isPublic(method.getModifiers())) {
                continue;
            }
            if (!shown.contains("desk." + method.getName() + "(")) {
                complain("README.md shows no call of " + method.getName());
            }
            if (text.stream().noneMatch(line -> line.startsWith("|") && line.contains("`" + method.getName() + "("))) {
                complain("README.md does not tell what " + method.getName() + " answers");
            }
        }
    }

    private static void tellsHowToTest(List<String> text) throws IOException {
        if (!text.contains(".ci/run") || !Files.isExecutable(SCRIPT)) {
            complain("README.md does not tell how to run the tests, or .ci/run cannot be run");
        }
        try (Stream<Path> tests = Files.list(TESTS)) {
            tests.map(test -> test.getFileName().toString().replace(".java", "")).forEach(name -> {
                if (text.stream().noneMatch(line -> line.startsWith("- `" + name + "`:"))) {
                    complain("README.md does not name " + name);
                }
            });
        }
    }

    public static void main(String[] args) throws Exception {
        if (!Files.isRegularFile(README)) {
            System.out.println("there is no README.md here; run this from the project's root");
            System.exit(1);
        }
        List<String> text = Files.readAllLines(README);
        runCalls(text);
        namesEveryCall(text);
        tellsHowToTest(text);
        if (wrong > 0) {
            System.out.println(wrong + " wrong");
            System.exit(1);
        }
        System.out.println("README.md holds in " + claims + " calls");
    }
}
