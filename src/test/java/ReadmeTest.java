import java.io.ByteArrayOutputStream;
import java.io.PrintStream;
import java.lang.reflect.Method;
import java.lang.reflect.Modifier;
import java.net.URL;
import java.net.URLClassLoader;
import java.nio.charset.StandardCharsets;
import java.nio.file.Files;
import java.nio.file.Path;
import java.util.regex.Matcher;
import java.util.regex.Pattern;
import javax.tools.ToolProvider;

/** What README.md says of the class: its program prints what stands there, and no call of the face is left out. */
public final class ReadmeTest {
    private static final Path README = Path.of("README.md");
    private static final Path BUILD = Path.of("build", "readme");
    private static final Pattern PROGRAM = Pattern.compile(
        "```java\n((?:(?!```).)*class Example (?:(?!```).)*)```\\s*```text\n(.*?)```", Pattern.DOTALL);
    private static final Pattern EXAMPLE_TEXT = Pattern.compile("\\| `(coast|law|work|book)\\((?:(\\d), )?n\\)` "
        + "\\|[^|]*\\| `([^`]*)` \\|");

    private ReadmeTest() {
    }

    public static void main(String[] args) throws Exception {
        String readme = Files.readString(README, StandardCharsets.UTF_8);
        Matcher program = PROGRAM.matcher(readme);
        boolean found = program.find();
        Checks.due("there is a program", found, true);
        if (found) {
            Checks.dueText("the program", printed(program.group(1)), program.group(2));
        }
        Checks.due("texts that are told", textsRead(readme), 5);
        for (Method method : WickNights.class.getDeclaredMethods()) {
            if (Modifier.isPublic(method.getModifiers())) {
                Checks.due(method.getName() + " is told",
                    Pattern.compile("`" + method.getName() + "[`(]").matcher(readme).find(), true);
            }
        }
        Checks.end();
    }

    private static String printed(String program) throws Exception {
        Files.createDirectories(BUILD);
        Path source = BUILD.resolve("Example.java");
        Files.writeString(source, program, StandardCharsets.UTF_8);
        int failed = ToolProvider.getSystemJavaCompiler().run(null, null, null, "-encoding", "UTF-8",
            "-cp", System.getProperty("java.class.path"), "-d", BUILD.toString(), source.toString());
        if (failed != 0) {
            return "nothing, for it does not compile";
        }
        PrintStream screen = System.out;
        ByteArrayOutputStream all = new ByteArrayOutputStream();
        try (URLClassLoader loader = new URLClassLoader(new URL[] {BUILD.toUri().toURL()})) {
            System.setOut(new PrintStream(all, true, StandardCharsets.UTF_8));
            loader.loadClass("Example").getMethod("main", String[].class).invoke(null, (Object) new String[0]);
        } finally {
            System.setOut(screen);
        }
        return all.toString(StandardCharsets.UTF_8).replace(System.lineSeparator(), "\n");
    }

    /** How many of the texts in the table are read without a fault, one behind another on one object. */
    private static int textsRead(String readme) {
        WickNights x = new WickNights();
        int many = 0;
        Matcher row = EXAMPLE_TEXT.matcher(readme);
        while (row.find()) {
            int n = Checks.feed(x, row.group(3));
            switch (row.group(1)) {
                case "coast":
                    x.coast(n);
                    break;
                case "law":
                    x.law(Integer.parseInt(row.group(2)), n);
                    break;
                case "work":
                    x.work(n);
                    break;
                default:
                    x.book(n);
                    break;
            }
            Checks.due("the fault of " + row.group(3), x.fault(), WickNights.NONE);
            many++;
        }
        return many;
    }
}
