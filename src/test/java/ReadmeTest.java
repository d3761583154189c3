import java.io.ByteArrayOutputStream;
import java.io.PrintStream;
import java.lang.reflect.Field;
import java.lang.reflect.Method;
import java.lang.reflect.Modifier;
import java.net.URL;
import java.net.URLClassLoader;
import java.nio.charset.StandardCharsets;
import java.nio.file.Files;
import java.nio.file.Path;
import javax.tools.ToolProvider;

/** README.md is true: its example prints what it says, and each method and constant is named. */
public final class ReadmeTest {
    private static final Path PLACE = Path.of("build/readme");

    public static void main(String[] args) throws Exception {
        String readme = Files.readString(Path.of("README.md"), StandardCharsets.UTF_8);
        Check.due("the example", printedBy(block(readme, "java")), block(readme, "text"));
        for (Method method : ColophonDetective.class.getMethods()) {
            if (method.getDeclaringClass() == ColophonDetective.class) {
                Check.due(method.getName() + " is named", readme.contains("`" + method.getName() + "`"), true);
            }
        }
        for (Field field : ColophonDetective.class.getFields()) {
            Check.due(field.getName() + " is a constant", Modifier.isStatic(field.getModifiers()), true);
            Check.due(field.getName() + " is named", readme.contains("`" + field.getName() + "`"), true);
        }
        Path tests = Path.of("src/test/java");
        try (var files = Files.list(tests)) {
            files.map(file -> file.getFileName().toString()).filter(name -> name.endsWith("Test.java")).sorted()
                    .map(name -> name.substring(0, name.indexOf('.')))
                    .forEach(name -> Check.due(name + " is named", readme.contains("`" + name + "`"), true));
        }
        Check.finish("ReadmeTest");
    }

    private static String block(String readme, String kind) {
        String fence = "```" + kind + "\n";
        int from = readme.indexOf(fence);
        Check.due("a block of " + kind, from >= 0, true);
        return readme.substring(from + fence.length(), readme.indexOf("```", from + fence.length()));
    }

    private static String printedBy(String example) throws Exception {
        Files.createDirectories(PLACE);
        Path file = PLACE.resolve("Example.java");
        Files.writeString(file, example);
        int code = ToolProvider.getSystemJavaCompiler().run(null, null, null, "-cp",
                System.getProperty("java.class.path"), "-d", PLACE.toString(), file.toString());
        Check.due("the example is compiled with code", code, 0);
        ByteArrayOutputStream printed = new ByteArrayOutputStream();
        PrintStream screen = System.out;
        try (URLClassLoader loader = new URLClassLoader(new URL[] {PLACE.toUri().toURL()})) {
            System.setOut(new PrintStream(printed, true, StandardCharsets.UTF_8));
            loader.loadClass("Example").getMethod("main", String[].class).invoke(null, (Object) new String[0]);
        } finally {
            System.setOut(screen);
        }
        return printed.toString(StandardCharsets.UTF_8).replace(System.lineSeparator(), "\n");
    }
}
