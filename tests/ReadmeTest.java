import java.io.ByteArrayOutputStream;
import java.io.IOException;
import java.io.PrintStream;
import java.lang.reflect.Method;
import java.lang.reflect.Modifier;
import java.net.URL;
import java.net.URLClassLoader;
import java.nio.charset.StandardCharsets;
import java.nio.file.DirectoryStream;
import java.nio.file.Files;
import java.nio.file.Path;
import java.util.regex.Matcher;
import java.util.regex.Pattern;
import javax.tools.ToolProvider;

/** README.md tells how the class is used and how its tests run (the argument is the class's path). */
public final class ReadmeTest {
    public static void main(String[] args) throws Exception {
        Path root = Path.of(args[0]).getParent().getParent().getParent().getParent();
        String page = Files.readString(root.resolve("README.md"));
        for (Method m : SpanSketch.class.getDeclaredMethods()) {
            if (Modifier.isPublic(m.getModifiers())) {
                call(page, m);
            }
        }
        for (int status = 0; status <= 7; status++) {
            Check.due("status " + status + " is told", page.contains("\n| " + status + " | "), true);
        }
        Check.due("NONE is told", page.contains("`NONE` (-1)"), true);
        Check.due("how the tests run is told", page.contains("\n.ci/run\n"), true);
        everyTest(page, root.resolve("tests"));
        String due = block(page, "text");
        String got = run(block(page, "java"));
        Check.due("the example prints what the page says, but\n" + got, got.equals(due), true);
        Check.end();
    }

    /** A call stands there with a name for each of its parameters. */
    private static void call(String page, Method m) {
        String names = "(\\w+, ){" + Math.max(0, m.getParameterCount() - 1) + "}"
            + (m.getParameterCount() > 0 ? "\\w+" : "");
        boolean told = Pattern.compile("\\|[^\\n]*`" + m.getName() + "\\(" + names + "\\)`").matcher(page).find();
        Check.due(m.getName() + "() is told", told, true);
    }

    private static void everyTest(String page, Path tests) throws IOException {
        try (DirectoryStream<Path> files = Files.newDirectoryStream(tests, "*Test.java")) {
            for (Path file : files) {
                String name = file.getFileName().toString().replace(".java", "");
                Check.due(name + " is told", page.contains("`" + name + "`"), true);
            }
        }
    }

    private static String block(String page, String kind) {
        Matcher m = Pattern.compile("(?s)\n```" + kind + "\n(.*?)```\n").matcher(page);
        boolean found = m.find();
        Check.due("a block of " + kind, found, true);
        return found ? m.group(1) : "";
    }

    /** Compiles the example beside the class and tells what it prints. */
    private static String run(String example) throws Exception {
        Path folder = Files.createTempDirectory("example");
        Path source = folder.resolve("Example.java");
        Path made = folder.resolve("Example.class");
        PrintStream out = System.out;
        ByteArrayOutputStream printed = new ByteArrayOutputStream();
        try {
            Files.writeString(source, example);
            int code = ToolProvider.getSystemJavaCompiler().run(null, null, null, "-d", folder.toString(),
                "-cp", System.getProperty("java.class.path"), source.toString());
            Check.due("the compiler", code, 0);
            if (code != 0) {
                return "";
            }
            try (URLClassLoader loader = new URLClassLoader(new URL[] {folder.toUri().toURL()})) {
                System.setOut(new PrintStream(printed, true, StandardCharsets.UTF_8));
                loader.loadClass("Example").getMethod("main", String[].class)
                    .invoke(null, (Object) new String[0]);
            }
        } finally {
            System.setOut(out);
            Files.deleteIfExists(made);
            Files.deleteIfExists(source);
            Files.deleteIfExists(folder);
        }
        return printed.toString(StandardCharsets.UTF_8).replace("\r\n", "\n");
    }
}
