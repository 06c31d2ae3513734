import java.io.ByteArrayOutputStream;
import java.io.File;
import java.io.IOException;
import java.io.PrintStream;
import java.lang.reflect.Method;
import java.lang.reflect.Modifier;
import java.net.URL;
import java.net.URLClassLoader;
import java.nio.file.Files;
import java.nio.file.Path;
import java.util.regex.Matcher;
import java.util.regex.Pattern;
import javax.tools.ToolProvider;

/** README.md: its example does what it says, and no call and no test is left out. */
public final class ReadmeTest {
    private static int wrong = 0;

    private static void check(boolean right, String what) {
        if (!right) {
            wrong++;
            System.out.println("not so: " + what);
        }
    }

    public static void main(String[] args) throws Exception {
        Path readme = Path.of(args.length > 2 ? args[2] : "README.md");
        String page = Files.readString(readme);
        example(block(page, "java"), block(page, "text"));
        calls(page);
        tests(page, readme.toAbsolutePath().getParent().resolve("src/test/java"));
        System.out.println(wrong + " things on the page are not so");
        if (wrong != 0) {
            System.exit(1);
        }
    }

    /** The first block of this language. */
    private static String block(String page, String language) {
        Matcher found = Pattern.compile("(?s)```" + language + "\n(.*?)```").matcher(page);
        check(found.find(), "a block of " + language);
        return found.reset().find() ? found.group(1) : "";
    }

    private static void example(String code, String prints) throws Exception {
        Path place = Files.createTempDirectory("readme");
        try {
            Path source = Files.writeString(place.resolve("Example.java"), code);
            int failed = ToolProvider.getSystemJavaCompiler().run(null, null, null, "-cp",
                System.getProperty("java.class.path"), "-d", place.toString(), source.toString());
            check(failed == 0, "the example compiles");
            String printed = failed == 0 ? run(place) : "";
            check(printed.equals(prints), "the example prints\n" + printed);
        } finally {
            clear(place);
        }
    }

    private static String run(Path place) throws Exception {
        PrintStream screen = System.out;
        ByteArrayOutputStream printed = new ByteArrayOutputStream();
        try (URLClassLoader loader = new URLClassLoader(new URL[] {place.toUri().toURL()}, ReadmeTest.class.getClassLoader())) {
            System.setOut(new PrintStream(printed, true));
            loader.loadClass("Example").getMethod("main", String[].class).invoke(null, (Object) new String[0]);
        } finally {
            System.setOut(screen);
        }
        return printed.toString().replace("\r\n", "\n");
    }

    private static void clear(Path place) throws IOException {
        for (File file : place.toFile().listFiles()) {
            Files.delete(file.toPath());
        }
        Files.delete(place);
    }

    private static void calls(String page) {
        for (Method method : LastCook.class.getDeclaredMethods()) {
            if (Modifier.isPublic(method.getModifiers())) {
                Matcher row = Pattern.compile("`" + method.getName() + "\\(([^)]*)\\)`").matcher(page);
                check(row.find(), method.getName() + " stands on the page");
                String arguments = row.reset().find() ? row.group(1) : "";
                int named = arguments.isEmpty() ? 0 : arguments.split(", ").length;
                check(named == method.getParameterCount(), method.getName() + " with its " + method.getParameterCount() + " arguments");
            }
        }
    }

    private static void tests(String page, Path place) {
        for (String name : place.toFile().list()) {
            boolean test = name.endsWith("Test.java");
            check(!test || page.contains("`" + name.replace(".java", "") + "`"), name + " stands on the page");
        }
    }
}
