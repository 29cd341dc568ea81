import java.io.ByteArrayOutputStream;
import java.io.IOException;
import java.io.PrintStream;
import java.net.URL;
import java.net.URLClassLoader;
import java.nio.file.DirectoryStream;
import java.nio.file.Files;
import java.nio.file.Path;
import java.util.ArrayList;
import java.util.List;
import java.util.regex.Matcher;
import java.util.regex.Pattern;
import javax.tools.ToolProvider;

/** README.md: its example compiles and prints what its comments tell, and it names every test that there is. */
final class ReadmeTest {
    private static final Check check = new Check("readme");
    private static final Pattern EXAMPLE = Pattern.compile("(?s)```java\n(.*?)```");
    private static final Pattern PRINTED = Pattern.compile("System\\.out\\.println\\(.*\\); *// (-?[0-9]+)\\b.*");

    public static void main(String[] args) throws IOException, ReflectiveOperationException {
        String readme = Files.readString(Path.of("README.md"));
        printsWhatItTells(example(readme));
        namesTheCalls(readme);
        namesTheTests(readme);
        check.end();
    }

    private static String example(String readme) {
        Matcher matcher = EXAMPLE.matcher(readme);
        boolean isThere = matcher.find();
        check.is("whether there is an example", isThere ? 1 : 0, 1);
        return isThere ? matcher.group(1) : "";
    }

    private static void printsWhatItTells(String example) throws IOException, ReflectiveOperationException {
        List<String> told = new ArrayList<>();
        for (String line : example.split("\n")) {
            if (line.contains("println")) {
                Matcher matcher = PRINTED.matcher(line.strip());
                boolean tells = matcher.matches();
                check.is("whether a comment tells what this prints: " + line, tells ? 1 : 0, 1);
                told.add(tells ? matcher.group(1) : "");
            }
        }
        List<String> printed = run(example).lines().toList();
        check.is("the lines that the example prints", printed.size(), told.size());
        for (int i = 0; i < Math.min(printed.size(), told.size()); i++) {
            boolean isSame = printed.get(i).equals(told.get(i));
            check.is("line " + i + ", " + printed.get(i) + ", is told as " + told.get(i), isSame ? 1 : 0, 1);
        }
    }

    /** What the example prints. */
    private static String run(String example) throws IOException, ReflectiveOperationException {
        Path directory = Files.createTempDirectory("readme");
        Path source = Files.writeString(directory.resolve("Example.java"), example);
        Path compiled = directory.resolve("Example.class");
        int exit = ToolProvider.getSystemJavaCompiler().run(null, null, null, "-Xlint:all", "-Werror",
            "-cp", System.getProperty("java.class.path"), "-d", directory.toString(), source.toString());
        check.is("the compiler's exit code", exit, 0);
        PrintStream out = System.out;
        ByteArrayOutputStream printed = new ByteArrayOutputStream();
        try (URLClassLoader loader = new URLClassLoader(new URL[] {directory.toUri().toURL()})) {
            System.setOut(new PrintStream(printed, true));
            loader.loadClass("Example").getMethod("main", String[].class).invoke(null, (Object) new String[0]);
        } finally {
            System.setOut(out);
            Files.deleteIfExists(compiled);
            Files.deleteIfExists(source);
            Files.deleteIfExists(directory);
        }
        return printed.toString();
    }

    private static void namesTheCalls(String readme) {
        for (java.lang.reflect.Method method : AllowanceBook.class.getMethods()) {
            if (method.getDeclaringClass() == AllowanceBook.class) {
                String name = "`" + method.getName() + "`";
                check.is("whether README.md names " + name, readme.contains(name) ? 1 : 0, 1);
            }
        }
    }

    private static void namesTheTests(String readme) throws IOException {
        try (DirectoryStream<Path> tests = Files.newDirectoryStream(Path.of("src/test/java"), "*Test.java")) {
            for (Path test : tests) {
                String name = "`" + test.getFileName().toString().replace(".java", "") + "`";
                check.is("whether README.md names " + name, readme.contains(name) ? 1 : 0, 1);
            }
        }
        Matcher matcher = Pattern.compile("`(\\w+Test)`").matcher(readme);
        while (matcher.find()) {
            Path test = Path.of("src/test/java/" + matcher.group(1) + ".java");
            check.is("whether there is " + test, Files.exists(test) ? 1 : 0, 1);
        }
    }
}
