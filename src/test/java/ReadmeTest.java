import java.io.ByteArrayOutputStream;
import java.io.IOException;
import java.io.PrintStream;
import java.lang.reflect.Method;
import java.lang.reflect.Modifier;
import java.net.URL;
import java.net.URLClassLoader;
import java.nio.file.Files;
import java.nio.file.Path;
import java.util.Set;
import java.util.TreeSet;
import java.util.regex.Matcher;
import java.util.regex.Pattern;
import java.util.stream.Stream;
import javax.tools.ToolProvider;

/** README.md holds as it stands: its program prints what it tells, and it names all calls, tests and helpers. */
public final class ReadmeTest extends Checks {
    private static final Path CLASS = Path.of("src/main/java/LessonTiers.java");

    private static String readme;

    /** The lines of the first part of the page in a language, as "java". */
    private static String block(String language) {
        Matcher m = Pattern.compile("(?s)```" + language + "\n(.*?)```").matcher(readme);
        if (!m.find()) {
            wrong("no part in " + language);
            return "";
        }
        return m.group(1);
    }

    private static void testProgram() throws Exception {
        place = "the program";
        Path folder = Files.createTempDirectory("readme");
        Path program = folder.resolve("Lesson.java");
        Files.writeString(program, block("java"));
        int failed = ToolProvider.getSystemJavaCompiler().run(null, null, null, "-Xlint:all", "-Werror",
            "-d", folder.toString(), CLASS.toString(), program.toString());
        is("exit code of the compiler", failed, 0);
        if (failed == 0) {
            same("what it prints", printed(folder), block("text"));
        }
        try (Stream<Path> files = Files.list(folder)) {
            for (Path file : files.toList()) {
                Files.delete(file);
            }
        }
        Files.delete(folder);
    }

    /** What the program prints, with the class that was compiled with it. */
    private static String printed(Path folder) throws Exception {
        ByteArrayOutputStream bytes = new ByteArrayOutputStream();
        PrintStream out = System.out;
        System.setOut(new PrintStream(bytes, true));
        try (URLClassLoader loader = new URLClassLoader(new URL[] {folder.toUri().toURL()},
                ClassLoader.getPlatformClassLoader())) {
            loader.loadClass("Lesson").getMethod("main", String[].class).invoke(null, (Object) new String[0]);
        } finally {
            System.setOut(out);
        }
        return bytes.toString().replace(System.lineSeparator(), "\n");
    }

    private static void testCalls() {
        place = "the calls";
        String calls = readme.substring(Math.max(0, readme.indexOf("The calls:")));
        for (Method m : LessonTiers.class.getDeclaredMethods()) {
            if (Modifier.isPublic(m.getModifiers()) && !calls.contains("`" + m.getName() + "`")) {
                wrong("no word of " + m.getName());
            }
        }
    }

    private static Set<String> classesIn(String folder) throws IOException {
        try (Stream<Path> files = Files.list(Path.of(folder))) {
            Set<String> names = new TreeSet<>();
            files.forEach(file -> names.add(file.getFileName().toString().replace(".java", "")));
            return names;
        }
    }

    private static void testNames() throws IOException {
        place = "the tests";
        Set<String> named = new TreeSet<>();
        Matcher m = Pattern.compile("`(\\w+Test)`").matcher(readme);
        while (m.find()) {
            named.add(m.group(1));
        }
        same("those that are named", named.toString(), classesIn("src/test/java").toString());
        for (String helper : classesIn("src/test/help")) {
            if (!readme.contains("`" + helper + "`")) {
                wrong("no word of " + helper);
            }
        }
    }

    private static void testClasses() {
        place = "how it is built";
        for (Class<?> inside : LessonTiers.class.getDeclaredClasses()) {
            if (!readme.contains("`" + inside.getSimpleName() + "`")) {
                wrong("no word of " + inside.getSimpleName());
            }
        }
    }

    public static void main(String[] args) throws Exception {
        readme = Files.readString(Path.of("README.md"));
        testProgram();
        testCalls();
        testNames();
        testClasses();
        end();
    }
}
