import java.io.ByteArrayOutputStream;
import java.io.IOException;
import java.io.PrintStream;
import java.lang.reflect.InvocationTargetException;
import java.lang.reflect.Method;
import java.lang.reflect.Modifier;
import java.net.URL;
import java.net.URLClassLoader;
import java.nio.charset.StandardCharsets;
import java.nio.file.Files;
import java.nio.file.Path;
import java.util.Comparator;
import java.util.List;
import java.util.spi.ToolProvider;
import java.util.stream.Collectors;
import java.util.stream.Stream;

/**
 * Holds README.md to what is: its example compiles and prints what is said behind it, and the page names every method
 * of the class and every test. It is run from the project's folder.
 */
public final class ReadmeTest {
    private static final Path README = Path.of("README.md");
    private static int wrong;

    private ReadmeTest() {
    }

    private static void complain(String what) {
        wrong++;
        System.out.println("README.md: " + what);
    }

    /** The lines between the fences of the first block in a language; empty if there is none. */
    private static String blockIn(String language, String page) {
        String fence = "\n```" + language + "\n";
        int from = page.indexOf(fence);
        int end = from < 0 ? -1 : page.indexOf("\n```", from + fence.length());
        return end < 0 ? "" : page.substring(from + fence.length(), end + 1);
    }

    private static String printedBy(String program, Path folder) throws IOException, ReflectiveOperationException {
        Path source = folder.resolve("Example.java");
        Files.writeString(source, program);
        ToolProvider javac = ToolProvider.findFirst("javac").orElseThrow();
        int failed = javac.run(System.out, System.out, "-Xlint:all", "-Werror", "-d", folder.toString(),
            "-classpath", folder.toString(), "-sourcepath", "src/main/java", source.toString());
        if (failed != 0) {
            return "it does not compile";
        }
        PrintStream before = System.out;
        ByteArrayOutputStream printed = new ByteArrayOutputStream();
        // the example uses the class that was compiled with it, not the one of this test
        ClassLoader parent = ClassLoader.getPlatformClassLoader();
        try (URLClassLoader loader = new URLClassLoader(new URL[] {folder.toUri().toURL()}, parent)) {
            System.setOut(new PrintStream(printed, true, StandardCharsets.UTF_8));
            loader.loadClass("Example").getMethod("main", String[].class).invoke(null, (Object) new String[0]);
        } catch (InvocationTargetException e) {
            return printed.toString(StandardCharsets.UTF_8) + e.getCause();
        } finally {
            System.setOut(before);
        }
        return printed.toString(StandardCharsets.UTF_8).replace(System.lineSeparator(), "\n");
    }

    private static void example(String page) throws IOException, ReflectiveOperationException {
        Path folder = Files.createTempDirectory("readme");
        try {
            String due = blockIn("text", page);
            String printed = printedBy(blockIn("java", page), folder);
            if (due.isEmpty() || !printed.equals(due)) {
                complain("the example prints\n" + printed + "\nand not\n" + due);
            }
        } finally {
            try (Stream<Path> files = Files.walk(folder)) {
                for (Path p : files.sorted(Comparator.reverseOrder()).collect(Collectors.toList())) {
                    Files.delete(p);
                }
            }
        }
    }

    private static void names(String page) throws IOException {
        for (Method m : ChaseLocker.class.getDeclaredMethods()) {
            if (Modifier.isPublic(m.getModifiers()) && !page.contains("`" + m.getName() + "`")) {
                complain("there is no word of " + m.getName());
            }
        }
        try (Stream<Path> files = Files.list(Path.of("src/test/java"))) {
            List<String> all = files.map(p -> p.getFileName().toString().replace(".java", "")).sorted()
                .collect(Collectors.toList());
            for (String test : all) {
                if (!page.contains("`" + test + "`")) {
                    complain("there is no word of " + test);
                }
            }
        }
    }

    public static void main(String[] args) throws IOException, ReflectiveOperationException {
        String page = Files.readString(README).replace("\r\n", "\n");
        example(page);
        names(page);
        if (wrong != 0) {
            System.exit(1);
        }
    }
}
