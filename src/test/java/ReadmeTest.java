import java.lang.reflect.Method;
import java.lang.reflect.Modifier;
import java.net.URL;
import java.net.URLClassLoader;
import java.nio.file.Files;
import java.nio.file.Path;
import java.util.ArrayList;
import java.util.List;
import java.util.TreeSet;
import java.util.regex.Matcher;
import java.util.regex.Pattern;
import java.util.stream.Stream;
import javax.tools.ToolProvider;

/** README.md says what is so: its example answers as its comments say, and it names the calls and the tests. */
public final class ReadmeTest {
    private static final Pattern EXAMPLE = Pattern.compile("```java\n(.*?)```", Pattern.DOTALL);
    /** A statement, and behind it a comment that begins with the answer, as it is written in Java. */
    private static final Pattern ANSWERED =
        Pattern.compile("(?:\\w+ \\w+ = )?(.*); +// (-?\\d+|true|false|\"[^\"]*\")(?:,.*)?");
    private static final Pattern OWN_FILE = Pattern.compile("`(src/[\\w/]+\\.java)`");
    private final Check check = new Check();
    private final String readme;

    private ReadmeTest(String readme) {
        this.readme = readme;
    }

    public static void main(String[] args) throws Exception {
        ReadmeTest test = new ReadmeTest(Files.readString(Path.of("README.md")).replace("\r\n", "\n"));
        test.exampleAnswers();
        test.exampleHasAllCalls();
        test.namesAllTests();
        test.namesWhatIsThere();
        test.namesTheCommand();
        test.check.end();
    }

    private String example() {
        Matcher block = EXAMPLE.matcher(readme);
        return block.find() ? block.group(1) : "";
    }

    /** The example is compiled as it stands, each answered statement as a question whether the answer is due. */
    private void exampleAnswers() throws Exception {
        check.about("README: the example answers as its comments say");
        StringBuilder body = new StringBuilder();
        for (String line : example().split("\n")) {
            body.append(asked(line)).append('\n');
        }
        Path folder = Files.createTempDirectory("readme");
        Path source = folder.resolve("Example.java");
        Files.writeString(source, "public class Example {\n"
            + "public static void answer(java.util.List<Object[]> asked) {\n" + body + "}\n}\n");
        String classes = System.getProperty("java.class.path");
        int exit = ToolProvider.getSystemJavaCompiler()
            .run(null, null, null, "-cp", classes, "-d", folder.toString(), source.toString());
        check.due("the example compiles", exit, 0);
        if (exit == 0) {
            answer(folder);
        }
        remove(folder);
    }

    private String asked(String line) {
        Matcher m = ANSWERED.matcher(line);
        boolean answered = m.matches();
        check.due("a comment begins with an answer: " + line, answered, line.contains("//"));
        if (!answered) {
            return line;
        }
        String what = m.group(1).replace("\\", "\\\\").replace("\"", "\\\"");
        return "asked.add(new Object[] {\"" + what + "\", " + m.group(1) + ", " + m.group(2) + "});";
    }

    private void answer(Path folder) throws Exception {
        List<Object[]> asked = new ArrayList<>();
        URL[] places = {folder.toUri().toURL()};
        try (URLClassLoader loader = new URLClassLoader(places, ReadmeTest.class.getClassLoader())) {
            loader.loadClass("Example").getMethod("answer", List.class).invoke(null, asked);
        }
        for (Object[] row : asked) {
            check.due((String) row[0], String.valueOf(row[1]), String.valueOf(row[2]));
        }
    }

    private static void remove(Path folder) throws Exception {
        try (Stream<Path> files = Files.list(folder)) {
            for (Path file : files.toList()) {
                Files.delete(file);
            }
        }
        Files.delete(folder);
    }

    private void exampleHasAllCalls() {
        check.about("README: how to use the class");
        for (Method m : SharesDesk.class.getDeclaredMethods()) {
            if (Modifier.isPublic(m.getModifiers())) {
                check.due("the example has " + m.getName(), example().contains("desk." + m.getName() + "("), true);
                check.due("it tells of " + m.getName(), readme.contains("`" + m.getName() + "`"), true);
            }
        }
    }

    private void namesAllTests() throws Exception {
        check.about("README: how to run its tests");
        try (Stream<Path> files = Files.list(Path.of("src/test/java"))) {
            for (Path file : files.toList()) {
                String name = "`src/test/java/" + file.getFileName() + "`";
                if (name.endsWith("Test.java`")) {
                    check.due("it names " + name, readme.contains(name), true);
                }
            }
        }
    }

    private void namesWhatIsThere() {
        check.about("README: the files that it names");
        TreeSet<String> named = new TreeSet<>();
        Matcher m = OWN_FILE.matcher(readme);
        while (m.find()) {
            named.add(m.group(1));
        }
        check.due("the program", named.contains("src/main/java/SharesDesk.java"), true);
        for (String name : named) {
            check.due(name + " is there", Files.isRegularFile(Path.of(name)), true);
        }
    }

    private void namesTheCommand() {
        check.about("README: the command that runs all the tests");
        check.due("it names .ci/run", readme.contains("\n    .ci/run\n"), true);
        check.due(".ci/run can be run", Files.isExecutable(Path.of(".ci/run")), true);
    }
}
