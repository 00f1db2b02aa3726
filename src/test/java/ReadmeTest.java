import java.io.File;
import java.lang.reflect.Field;
import java.lang.reflect.Method;
import java.lang.reflect.Modifier;
import java.net.URL;
import java.net.URLClassLoader;
import java.nio.file.Files;
import java.nio.file.Path;
import java.util.ArrayList;
import java.util.List;
import java.util.Set;
import java.util.TreeSet;
import java.util.regex.Matcher;
import java.util.regex.Pattern;
import javax.tools.ToolProvider;

/** README.md tells what is so: its example answers what it says, and it names every call, constant and test. */
public final class ReadmeTest {
    private static final Path PAGE = Path.of("README.md");
    private static final Path DOCUMENT = Path.of("../shared/DOC.md");
    private static final File TESTS = new File("src/test/java");
    private static final Pattern ANSWERED = Pattern.compile("(x\\..*\\)); +// (-?\\d+): .*");
    private static final Pattern CALL = Pattern.compile("\\| `(\\w+\\([^)]*\\))` \\|.*\\| (\\d+) \\|");
    private static final Pattern PROMISED = Pattern.compile("`(?:int|long) (\\w+\\([^)]*\\))`:.*");
    private static final Pattern NAMED = Pattern.compile("`(\\w+)`");

    public static void main(String[] args) throws Exception {
        Check.run(ReadmeTest.class);
    }

    private static List<String> page() throws Exception {
        return Files.readAllLines(PAGE);
    }

    private static Set<String> named() throws Exception {
        Set<String> named = new TreeSet<>();
        for (String line : page()) {
            Matcher matcher = NAMED.matcher(line);
            while (matcher.find()) {
                named.add(matcher.group(1));
            }
        }
        return named;
    }

    static void theExampleAnswersWhatItSays() throws Exception {
        List<String> lines = page();
        int start = lines.indexOf("```java") + 1;
        StringBuilder program = new StringBuilder("public final class Example { public static void answer(long[] y) {\n");
        List<Long> said = new ArrayList<>();
        for (int at = start; at < lines.size() && !lines.get(at).equals("```"); at++) {
            Matcher matcher = ANSWERED.matcher(lines.get(at));
            if (matcher.matches()) {
                program.append("y[").append(said.size()).append("] = ").append(matcher.group(1)).append(";\n");
                said.add(Long.parseLong(matcher.group(2)));
            } else {
                program.append(lines.get(at)).append('\n');
            }
        }
        Check.due("the example has calls", start > 0 && said.size() > 5 ? 1 : 0, 1);
        long[] answers = new long[said.size()];
        carryOut(program.append("} }\n").toString(), answers);
        for (int call = 0; call < answers.length; call++) {
            Check.due("the example's call " + call, answers[call], said.get(call));
        }
    }

    private static void carryOut(String program, long[] answers) throws Exception {
        Path directory = Files.createTempDirectory("readme");
        Path source = directory.resolve("Example.java");
        Path compiled = directory.resolve("Example.class");
        try {
            Files.writeString(source, program);
            Check.due("compiling the example", ToolProvider.getSystemJavaCompiler().run(null, System.out, System.out,
                    "-proc:none", "-cp", System.getProperty("java.class.path"), "-d", directory.toString(),
                    source.toString()), 0);
            try (URLClassLoader loader = new URLClassLoader(new URL[] {directory.toUri().toURL()})) {
                loader.loadClass("Example").getMethod("answer", long[].class).invoke(null, (Object) answers);
            }
        } finally {
            Files.deleteIfExists(source);
            Files.deleteIfExists(compiled);
            Files.delete(directory);
        }
    }

    /** The table of the calls has each one as the document has it, with its promise. */
    static void eachCallIsInTheTable() throws Exception {
        Set<String> told = new TreeSet<>();
        for (String line : page()) {
            Matcher matcher = CALL.matcher(line);
            if (matcher.matches()) {
                told.add(matcher.group(2) + ": " + matcher.group(1));
            }
        }
        Set<String> promised = new TreeSet<>();
        int promise = 0;
        for (String line : Files.readAllLines(DOCUMENT)) {
            promise = line.startsWith("## Promise ") ? promise + 1 : promise;
            Matcher matcher = PROMISED.matcher(line);
            if (matcher.matches()) {
                promised.add(promise + ": " + matcher.group(1).replaceAll("(int|long) ", ""));
            }
        }
        Check.due("promised calls", promised.size(), 22);
        Check.same("the table of the calls", told.toString(), promised.toString());
        for (Method method : LineDoubler.class.getMethods()) {
            if (method.getDeclaringClass() == LineDoubler.class
                    && told.stream().noneMatch(call -> call.contains(" " + method.getName() + "("))) {
                Check.fail("README.md does not tell of the call " + method.getName());
            }
        }
    }

    static void eachConstantIsNamed() throws Exception {
        Set<String> named = named();
        for (Field field : LineDoubler.class.getFields()) {
            if (Modifier.isStatic(field.getModifiers()) && !named.contains(field.getName())) {
                Check.fail("README.md does not name the constant " + field.getName());
            }
        }
    }

    static void theTestsAreNamedAndThere() throws Exception {
        Set<String> named = named();
        named.removeIf(name -> !name.endsWith("Test"));
        Set<String> there = new TreeSet<>();
        for (String file : TESTS.list()) {
            if (file.endsWith("Test.java")) {
                there.add(file.substring(0, file.length() - ".java".length()));
            }
        }
        Check.same("the tests that README.md names", named.toString(), there.toString());
    }

    /** The page's own commands run as they stand there: what they read and name is there. */
    static void theCommandsNameWhatIsThere() throws Exception {
        String page = String.join("\n", page());
        String[] commands = {"`.ci/run`", "\njavac -d /tmp/doubler src/main/java/LineDoubler.java src/test/java/*.java\n",
            "\njava -Druns=50000 -cp /tmp/doubler RandomRunsTest\n"};
        for (String command : commands) {
            Check.due("README.md has " + command.trim(), page.contains(command) ? 1 : 0, 1);
        }
        Check.due(".ci/run can be run", Files.isExecutable(Path.of(".ci/run")) ? 1 : 0, 1);
    }

    static void anObjectIsForAtMost512Calls() throws Exception {
        Check.due("README.md tells of 512 calls", String.join(" ", page()).contains("at most 512 calls") ? 1 : 0, 1);
    }
}
