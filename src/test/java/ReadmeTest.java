import java.io.File;
import java.io.IOException;
import java.lang.reflect.Method;
import java.lang.reflect.Modifier;
import java.nio.charset.StandardCharsets;
import java.nio.file.Files;
import java.nio.file.Path;
import java.util.ArrayList;
import java.util.List;
import java.util.Set;
import java.util.TreeSet;
import java.util.regex.MatchResult;
import java.util.regex.Pattern;
import java.util.stream.Collectors;
import java.util.stream.Stream;
import javax.tools.ToolProvider;

/** What README.md says of the class's use and of the tests holds as it is written. */
public final class ReadmeTest {
    private static final Due due = new Due("ReadmeTest");
    private static final Path TESTS = Path.of("src/test/java");

    public static void main(String[] args) throws IOException, InterruptedException {
        String readme = Files.readString(Path.of("README.md"), StandardCharsets.US_ASCII);
        example(blockOf(readme, "java"));
        everyCall(readme);
        everyTest(readme);
        everyPath(readme);
        due.end();
    }

    /** The example, compiled and run as README.md says, prints what its comments tell. */
    private static void example(String code) throws IOException, InterruptedException {
        Path folder = Files.createTempDirectory("readme");
        Path file = folder.resolve("Example.java");
        Path output = folder.resolve("output");
        Files.writeString(file, code);
        int compiled = ToolProvider.getSystemJavaCompiler().run(null, null, null, "-d",
            folder.toString(), "src/main/java/FieldPumps.java", file.toString());
        due.is(compiled, 0);
        String java = Path.of(System.getProperty("java.home"), "bin", "java").toString();
        int ended = new ProcessBuilder(java, "-cp", folder.toString(), "Example")
            .redirectErrorStream(true).redirectOutput(output.toFile()).start().waitFor();
        due.is(ended, 0);
        List<String> told = all("println\\(.*\\); +// (-?\\d+)", code);
        due.is(told.size(), code.split("println", -1).length - 1);
        due.same("the example", String.join(" ", Files.readAllLines(output)), String.join(" ", told));
        delete(folder);
    }

    private static void everyCall(String readme) {
        Set<String> told = new TreeSet<>(all("`?(\\b\\w+\\([\\w, ]*\\))`", readme));
        Set<String> counts = told.stream().map(ReadmeTest::nameAndCount)
            .collect(Collectors.toCollection(TreeSet::new));
        Set<String> face = new TreeSet<>(Set.of("FieldPumps/0"));
        for (Method method : FieldPumps.class.getDeclaredMethods()) {
            if (Modifier.isPublic(method.getModifiers())) {
                face.add(method.getName() + "/" + method.getParameterCount());
            }
        }
        due.same("the calls", counts.toString(), face.toString());
    }

    private static String nameAndCount(String call) {
        int begin = call.indexOf('(');
        String arguments = call.substring(begin + 1, call.length() - 1);
        int count = arguments.isEmpty() ? 0 : arguments.split(",").length;
        return call.substring(0, begin) + "/" + count;
    }

    private static void everyTest(String readme) throws IOException {
        try (Stream<Path> files = Files.list(TESTS)) {
            Set<String> there = files.map(file -> file.getFileName().toString())
                .filter(name -> name.endsWith("Test.java")).map(name -> name.replace(".java", ""))
                .collect(Collectors.toCollection(TreeSet::new));
            due.same("the tests", new TreeSet<>(all("`(\\w+Test)`", readme)).toString(),
                there.toString());
        }
    }

    private static void everyPath(String readme) {
        List<String> paths = all("`((?:\\.\\./shared|src|\\.ci)/[\\w./]+)`", readme);
        due.isTrue("paths are told", paths.size() >= 4);
        for (String path : paths) {
            due.isTrue(path + " is there", new File(path).exists());
        }
    }

    private static String blockOf(String readme, String language) {
        List<String> blocks = all("(?s)```" + language + "\n(.*?)```", readme);
        due.is(blocks.size(), 1);
        return blocks.isEmpty() ? "" : blocks.get(0);
    }

    private static List<String> all(String pattern, String text) {
        return Pattern.compile(pattern).matcher(text).results().map(found -> group(found)).toList();
    }

    private static String group(MatchResult found) {
        return found.group(1);
    }

    private static void delete(Path folder) throws IOException {
        List<Path> files = new ArrayList<>();
        try (Stream<Path> inside = Files.list(folder)) {
            inside.forEach(files::add);
        }
        files.add(folder);
        for (Path file : files) {
            Files.delete(file);
        }
    }
}
