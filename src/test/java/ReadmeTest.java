import java.io.ByteArrayOutputStream;
import java.io.PrintStream;
import java.lang.reflect.Method;
import java.lang.reflect.Modifier;
import java.net.URL;
import java.net.URLClassLoader;
import java.nio.charset.StandardCharsets;
import java.nio.file.Files;
import java.nio.file.Path;
import java.util.Comparator;
import java.util.List;
import java.util.regex.Matcher;
import java.util.regex.Pattern;
import java.util.stream.Collectors;
import java.util.stream.Stream;
import javax.tools.ToolProvider;

/** README.md: its program prints what it says, its law is one, and it names every call. */
final class ReadmeTest {
    private static final Check check = new Check();

    public static void main(String[] args) throws Exception {
        Path source = Path.of(args.length > 0 ? args[0] : "src/main/java/WheelYear.java").toAbsolutePath();
        String readme = Files.readString(source.resolve("../../../../README.md").normalize());
        List<String> programs = blocks(readme, "java");
        List<String> texts = blocks(readme, "text");
        check.due("programs", programs.size(), 1);
        check.due("what it prints, a law", texts.size(), 2);
        if (programs.size() == 1 && texts.size() == 2) {
            String printed = printedBy(programs.get(0));
            check.due("the program printed\n" + printed, printed.equals(texts.get(0)));
            check.due("the law", Check.law(new WheelYear(), texts.get(1).strip()), 0);
        }
        namesEveryCall(readme);
        check.due(".ci/run is told", readme.contains(".ci/run"));
        check.end("ReadmeTest");
    }

    private static List<String> blocks(String readme, String kind) {
        Matcher m = Pattern.compile("(?s)```" + kind + "\n(.*?)```").matcher(readme);
        return m.results().map(found -> found.group(1)).collect(Collectors.toList());
    }

    private static void namesEveryCall(String readme) {
        for (Method m : WheelYear.class.getDeclaredMethods()) {
            if (Modifier.isPublic(m.getModifiers())) {
                check.due("README.md names " + m.getName(), readme.contains("`" + m.getName() + "`"));
            }
        }
    }

    private static String printedBy(String program) throws Exception {
        Path folder = Files.createTempDirectory("readme");
        try {
            Path file = Files.writeString(folder.resolve("Example.java"), program);
            int failed = ToolProvider.getSystemJavaCompiler().run(null, null, null, "-Xlint:all", "-Werror", "-cp",
                    System.getProperty("java.class.path"), "-d", folder.toString(), file.toString());
            return failed == 0 ? run(folder) : "nothing, as it does not compile\n";
        } finally {
            delete(folder);
        }
    }

    private static String run(Path folder) throws Exception {
        ByteArrayOutputStream printed = new ByteArrayOutputStream();
        PrintStream before = System.out;
        try (URLClassLoader loader = new URLClassLoader(new URL[] {folder.toUri().toURL()})) {
            System.setOut(new PrintStream(printed, true, StandardCharsets.UTF_8));
            loader.loadClass("Example").getMethod("main", String[].class).invoke(null, (Object) new String[0]);
        } finally {
            System.setOut(before);
        }
        return printed.toString(StandardCharsets.UTF_8).replace("\r\n", "\n");
    }

    private static void delete(Path folder) throws Exception {
        try (Stream<Path> all = Files.walk(folder)) {
            for (Path one : all.sorted(Comparator.reverseOrder()).collect(Collectors.toList())) {
                Files.delete(one);
            }
        }
    }
}
