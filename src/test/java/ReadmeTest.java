import java.io.IOException;
import java.nio.file.Files;
import java.nio.file.Path;
import java.util.List;
import java.util.Set;
import java.util.TreeSet;
import java.util.regex.Matcher;
import java.util.regex.Pattern;

/** README.md says how to use the class: its example prints what it says, and it names every method and every test. */
final class ReadmeTest {
    private static final Check CHECK = new Check("ReadmeTest");
    private static final Path README = Path.of("README.md");
    private static final Path TESTS = Path.of("src/test/java");

    public static void main(String[] args) throws IOException, InterruptedException {
        String readme = Files.readString(README);
        theExample(partOf(readme, "(?s)```java\n(.*?)```"), partOf(readme, "It prints `(.*?)`"));
        theMethods(readme);
        theTests(readme);
        CHECK.finish();
    }

    private static String partOf(String readme, String pattern) {
        Matcher matcher = Pattern.compile(pattern).matcher(readme);
        boolean found = matcher.find();
        CHECK.same("README.md holds " + pattern, true, found);
        return found ? matcher.group(1) : "";
    }

    /** Java runs a single source file as it stands, with the classes of this test beside it. */
    private static void theExample(String source, String printed) throws IOException, InterruptedException {
        Path folder = Files.createTempDirectory("readme");
        Path example = folder.resolve("Mine.java");
        Path output = folder.resolve("output");
        Files.writeString(example, source);
        List<String> command = List.of(Path.of(System.getProperty("java.home"), "bin", "java").toString(),
                "-cp", System.getProperty("java.class.path"), example.toString());
        int exit = new ProcessBuilder(command).redirectErrorStream(true).redirectOutput(output.toFile()).start().waitFor();
        CHECK.same("the example prints", printed, Files.readString(output).strip());
        CHECK.same("the example ends with", 0, exit);
        for (Path path : List.of(example, output, folder)) {
            Files.delete(path);
        }
    }

    private static void theMethods(String readme) {
        Set<String> names = new TreeSet<>();
        for (java.lang.reflect.Method method : DyeTank.class.getMethods()) {
            if (method.getDeclaringClass() == DyeTank.class) {
                names.add(method.getName());
            }
        }
        for (String name : names) {
            CHECK.same("README.md names " + name, true, readme.contains("`" + name + "`"));
        }
    }

    private static void theTests(String readme) throws IOException {
        CHECK.same("README.md names the script", true, readme.contains(".ci/run"));
        try (var files = Files.list(TESTS)) {
            for (Path file : files.toList()) {
                String name = file.getFileName().toString().replace(".java", "");
                if (name.endsWith("Test")) {
                    CHECK.same("README.md names " + name, true, readme.contains("`" + name + "`"));
                }
            }
        }
    }
}
