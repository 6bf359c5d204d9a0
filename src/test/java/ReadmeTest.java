import java.io.ByteArrayOutputStream;
import java.io.IOException;
import java.io.PrintStream;
import java.lang.reflect.Method;
import java.lang.reflect.Modifier;
import java.net.URL;
import java.net.URLClassLoader;
import java.nio.charset.StandardCharsets;
import java.nio.file.Files;
import java.nio.file.Path;
import java.util.stream.Stream;
import javax.tools.ToolProvider;

/** README.md: its example does what stands there, and it names all calls and all tests. */
public final class ReadmeTest {
    private static final Check CHECK = new Check("ReadmeTest");

    public static void main(String[] args) throws ReflectiveOperationException, IOException {
        String page = Files.readString(Path.of("README.md"));
        Path folder = Files.createTempDirectory("readme");
        try {
            String printed = run(folder, part(page, "java"));
            CHECK.due("the example prints\n" + printed, printed.equals(part(page, "text")), true);
        } finally {
            Check.remove(folder);
        }
        calls(page);
        tests(page);
        CHECK.finish();
    }

    private static String part(String page, String kind) {
        String opening = "\n```" + kind + "\n";
        int from = page.indexOf(opening);
        int to = page.indexOf("```", from + opening.length());
        CHECK.due("a part of " + kind + " is there", from >= 0 && to > from, true);
        return from < 0 || to < from ? "" : page.substring(from + opening.length(), to);
    }

    private static String run(Path folder, String example) throws ReflectiveOperationException, IOException {
        Path file = folder.resolve("Example.java");
        Files.writeString(file, example);
        int wrong = ToolProvider.getSystemJavaCompiler().run(null, null, null, "-d", folder.toString(),
            "src/main/java/TwoInOne.java", file.toString());
        CHECK.due("errors of the compiler", wrong, 0);
        PrintStream out = System.out;
        ByteArrayOutputStream printed = new ByteArrayOutputStream();
        try (URLClassLoader loader = new URLClassLoader(new URL[] {folder.toUri().toURL()}, null);
                PrintStream caught = new PrintStream(printed, true, StandardCharsets.UTF_8)) {
            System.setOut(caught);
            loader.loadClass("Example").getMethod("main", String[].class).invoke(null, (Object) new String[0]);
        } finally {
            System.setOut(out);
        }
        return printed.toString(StandardCharsets.UTF_8).replace("\r\n", "\n");
    }

    private static void calls(String page) {
        for (Method method : TwoInOne.class.getDeclaredMethods()) {
            if (Modifier.isPublic(method.getModifiers())) {
                CHECK.due(method.getName() + " is named", page.contains("`" + method.getName() + "`"), true);
            }
        }
    }

    private static void tests(String page) throws IOException {
        try (Stream<Path> files = Files.list(Path.of("src/test/java"))) {
            for (Path file : (Iterable<Path>) files::iterator) {
                String name = file.getFileName().toString().replace(".java", "");
                if (name.endsWith("Test")) {
                    CHECK.due(name + " is named", page.contains("\n| " + name + " |"), true);
                }
            }
        }
    }
}
