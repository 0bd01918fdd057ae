import java.io.ByteArrayOutputStream;
import java.io.IOException;
import java.io.PrintStream;
import java.lang.reflect.Method;
import java.lang.reflect.Modifier;
import java.net.URL;
import java.net.URLClassLoader;
import java.nio.charset.StandardCharsets;
import java.nio.file.Files;
import java.nio.file.Path;
import javax.tools.ToolProvider;

/** README.md: its example compiles, and prints what stands behind it; each call of the face is told. */
final class ReadmeTest {
    private static final Check CHECK = new Check("ReadmeTest");
    private static final String EXAMPLE = "Example";

    public static void main(String[] args) throws IOException, ReflectiveOperationException {
        String readme = Files.readString(Path.of("README.md"));
        checkExample(readme);
        checkCalls(readme);
        CHECK.finish();
    }

    private static void checkExample(String readme) throws IOException, ReflectiveOperationException {
        Path folder = Files.createDirectories(Path.of("build", "readme"));
        Path source = folder.resolve(EXAMPLE + ".java");
        Files.writeString(source, block(readme, "java"));
        int failed = ToolProvider.getSystemJavaCompiler().run(null, System.out, System.out, "-Xlint:all",
                "-Werror", "-cp", System.getProperty("java.class.path"), "-d", folder.toString(), source.toString());
        CHECK.same("javac of the example", failed, 0);
        if (failed == 0) {
            String want = block(readme, "text");
            String got = printed(folder);
            CHECK.isTrue("the example prints\n" + got + "due is\n" + want, got.equals(want));
        }
    }

    /** What stands between the first line "```kind" and the next "```". */
    private static String block(String readme, String kind) {
        String opening = "\n```" + kind + "\n";
        int start = readme.indexOf(opening) + opening.length();
        return readme.substring(start, readme.indexOf("\n```\n", start) + 1);
    }

    private static String printed(Path folder) throws IOException, ReflectiveOperationException {
        ByteArrayOutputStream bytes = new ByteArrayOutputStream();
        PrintStream before = System.out;
        try (URLClassLoader loader = new URLClassLoader(new URL[] {folder.toUri().toURL()})) {
            Method main = loader.loadClass(EXAMPLE).getMethod("main", String[].class);
            System.setOut(new PrintStream(bytes, true, StandardCharsets.UTF_8));
            main.invoke(null, (Object) new String[0]);
        } finally {
            System.setOut(before);
        }
        return bytes.toString(StandardCharsets.UTF_8).replace(System.lineSeparator(), "\n");
    }

    private static void checkCalls(String readme) {
        for (Method method : TrickFinder.class.getDeclaredMethods()) {
            if (Modifier.isPublic(method.getModifiers())) {
                CHECK.isTrue("README.md tells of " + method.getName(), readme.contains("`" + method.getName() + "("));
            }
        }
    }
}
