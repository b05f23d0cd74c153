import java.io.IOException;
import java.lang.reflect.Method;
import java.lang.reflect.Modifier;
import java.net.URISyntaxException;
import java.nio.file.Files;
import java.nio.file.Path;
import java.util.TreeSet;
import java.util.regex.Matcher;
import java.util.regex.Pattern;
import javax.tools.ToolProvider;

/** What README.md says: its example is compiled and run, and what it names must be there. */
public final class ReadmeTest {
    private static final Checks CHECKS = new Checks();
    private static final Pattern BLOCK = Pattern.compile("(?s)```java\\n(.*?)```");
    private static final Pattern ANSWER = Pattern.compile("(house\\.\\w+\\([^;]*\\)); *// (-?\\d+)(,.*)?");

    public static void main(String[] args) throws IOException, URISyntaxException, ReflectiveOperationException {
        String readme = Files.readString(Path.of("README.md"));
        runExample(readme);
        namesTests(readme);
        namesCalls(readme);
        CHECKS.due(".ci/run can be run", 1, Files.isExecutable(Path.of(".ci", "run")) ? 1 : 0);
        CHECKS.end();
    }

    /** Called by the example for each answer that stands behind a call. */
    public static void due(String line, int due, int answer) {
        CHECKS.due("README.md: " + line, due, answer);
    }

    private static void runExample(String readme) throws IOException, URISyntaxException, ReflectiveOperationException {
        StringBuilder members = new StringBuilder();
        StringBuilder steps = new StringBuilder();
        int answers = 0;
        int calls = 0;
        for (Matcher block = BLOCK.matcher(readme); block.find();) {
            if (block.group(1).startsWith("static ")) {
                members.append(block.group(1));
                continue;
            }
            for (String line : block.group(1).split("\n")) {
                Matcher told = ANSWER.matcher(line);
                calls += line.startsWith("house.") ? 1 : 0;
                if (told.matches()) {
                    answers++;
                    String call = told.group(1);
                    steps.append("ReadmeTest.due(\"" + call + "\", " + told.group(2) + ", " + call + ");\n");
                } else {
                    steps.append(line).append('\n');
                }
            }
        }
        CHECKS.due("each call of the example has its answer", calls, answers);
        CHECKS.due("there is an example", 1, answers > 0 ? 1 : 0);
        compileAndRun("public final class Example {\n" + members + "public static void main(String[] args) {\n" + steps
                + "}\n}\n");
    }

    private static void compileAndRun(String source) throws IOException, URISyntaxException, ReflectiveOperationException {
        Path classes = Path.of(ReadmeTest.class.getProtectionDomain().getCodeSource().getLocation().toURI());
        Path file = classes.resolve("Example.java");
        Files.writeString(file, source);
        int failed = ToolProvider.getSystemJavaCompiler().run(null, null, null, "-cp", classes.toString(),
                "-d", classes.toString(), file.toString());
        CHECKS.due("the example is compiled", 0, failed);
        if (failed == 0) {
            Class.forName("Example").getMethod("main", String[].class).invoke(null, (Object) new String[0]);
        }
    }

    private static void namesTests(String readme) throws IOException {
        TreeSet<String> there = new TreeSet<>();
        try (var files = Files.list(Path.of("src", "test", "java"))) {
            files.forEach(file -> there.add(file.getFileName().toString().replace(".java", "")));
        }
        TreeSet<String> named = new TreeSet<>();
        for (Matcher name = Pattern.compile("`(\\w+Test|Checks|Script|Model|FullHouse)`").matcher(readme); name.find();) {
            named.add(name.group(1));
        }
        CHECKS.due("the tests that are named", there.toString(), named.toString());
    }

    private static void namesCalls(String readme) {
        TreeSet<String> there = new TreeSet<>();
        for (Method method : CartoonHouse.class.getDeclaredMethods()) {
            if (Modifier.isPublic(method.getModifiers())) {
                there.add(method.getName());
            }
        }
        TreeSet<String> named = new TreeSet<>();
        String table = readme.substring(readme.indexOf("### The calls"), readme.indexOf("### Refusals"));
        for (Matcher name = Pattern.compile("`(\\w+)`").matcher(table); name.find();) {
            named.add(name.group(1));
        }
        CHECKS.due("the calls that are named", there.toString(), named.toString());
    }
}
