import java.io.ByteArrayOutputStream;
import java.io.File;
import java.io.IOException;
import java.lang.reflect.Field;
import java.lang.reflect.Method;
import java.lang.reflect.Modifier;
import java.nio.charset.StandardCharsets;
import java.nio.file.Files;
import java.nio.file.Path;
import java.util.regex.Matcher;
import java.util.regex.Pattern;
import javax.tools.ToolProvider;

/** What README.md says is so when it is tried as it is written there. */
public final class ReadmeTest {
    private static final Checks checks = new Checks();
    private static final Path PLACE = Path.of("build", "readme");

    public static void main(String[] args) throws IOException, InterruptedException {
        String readme = Files.readString(Path.of("README.md"));
        checks.begin("README.md");
        example(args[0], block(readme, "java"), block(readme, "text"));
        namesOfTheFace(readme);
        tests(readme);
        checks.end();
    }

    private static String block(String readme, String kind) {
        Matcher m = Pattern.compile("(?s)\n```" + kind + "\n(.*?)```\n").matcher(readme);
        checks.holds("there is a block of " + kind, m.find());
        String words = m.group(1);
        checks.holds("there is one block of " + kind, !m.find());
        return words;
    }

    private static void example(String classFile, String code, String due) throws IOException, InterruptedException {
        Files.createDirectories(PLACE);
        Path example = PLACE.resolve("Example.java");
        Files.writeString(example, code);
        int compiled = ToolProvider.getSystemJavaCompiler().run(null, null, null, "-Xlint:all", "-Werror",
            "-d", PLACE.toString(), classFile, example.toString());
        checks.same("javac of the example", compiled, 0);
        checks.same("what the example prints", output("Example"), due);
    }

    private static String output(String name) throws IOException, InterruptedException {
        String java = Path.of(System.getProperty("java.home"), "bin", "java").toString();
        Process process = new ProcessBuilder(java, "-cp", PLACE.toString(), name).redirectErrorStream(true).start();
        ByteArrayOutputStream bytes = new ByteArrayOutputStream();
        process.getInputStream().transferTo(bytes);
        checks.same("exit code of " + name, process.waitFor(), 0);
        return bytes.toString(StandardCharsets.UTF_8).replace(System.lineSeparator(), "\n");
    }

    private static void namesOfTheFace(String readme) {
        for (Method method : GrantedSort.class.getDeclaredMethods()) {
            if (Modifier.isPublic(method.getModifiers())) {
                names(readme, method.getName());
            }
        }
        for (Field field : GrantedSort.class.getDeclaredFields()) {
            if (Modifier.isPublic(field.getModifiers())) {
                names(readme, field.getName());
            }
        }
    }

    private static void tests(String readme) {
        String[] files = new File("src/test/java").list();
        checks.holds("there are tests", files != null && files.length > 0);
        for (String file : files == null ? new String[0] : files) {
            if (file.endsWith("Test.java")) {
                names(readme, file.replace(".java", ""));
            }
        }
        names(readme, "src/test/java/*Test.java");
        checks.holds("it tells how to run all tests", readme.contains("\n    bash .ci/run\n"));
    }

    private static void names(String readme, String name) {
        checks.holds("it names " + name, readme.contains("`" + name + "`"));
    }
}
