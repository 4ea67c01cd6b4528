import java.io.ByteArrayOutputStream;
import java.io.File;
import java.io.IOException;
import java.io.PrintStream;
import java.net.URL;
import java.net.URLClassLoader;
import java.nio.charset.StandardCharsets;
import java.nio.file.Files;
import java.nio.file.Path;
import java.util.Comparator;
import java.util.List;
import java.util.Set;
import java.util.TreeSet;
import java.util.regex.Matcher;
import java.util.regex.Pattern;
import java.util.stream.Collectors;
import java.util.stream.Stream;
import javax.tools.ToolProvider;

/** README.md is true to the class and its tests: its program, its calls, its numbers, its list of tests. */
public final class ReadmeTest {
    private static int wrong = 0;

    private static void due(String what, Object got, Object want) {
        if (got.equals(want)) return;
        wrong++;
        System.out.println(what + ":\n" + got + "\ndue is:\n" + want);
    }

    public static void main(String[] args) throws Exception {
        String readme = Files.readString(Path.of("README.md"));
        String source = Files.readString(Path.of("src/main/java/OneMeasure.java"));
        due("the program prints", block(readme, "text"), printed(block(readme, "java")));
        due("the calls in the tables", all("(?m)^\\| `((?:int|long) [^`]*)` \\|", readme), all("public ((?:int|long) \\w+\\([^)]*\\)) \\{", source));
        due("the refusals", all("`(BAD|NO|FULL|NONE)` \\(", readme), new TreeSet<>(Set.of("BAD", "NO", "FULL", "NONE")));
        due("BAD", readme.contains("`BAD` (" + OneMeasure.BAD + ")"), true);
        due("NO", readme.contains("`NO` (" + OneMeasure.NO + ")"), true);
        due("FULL", readme.contains("`FULL` (" + OneMeasure.FULL + ")"), true);
        due("NONE", readme.contains("`NONE` (" + OneMeasure.NONE + ")"), true);
        due("the tests it names", all("`(\\w+Test)`", readme), testsThereAre());
        filesAreThere(readme);
        System.out.println(wrong == 0 ? "README.md is true" : wrong + " sentences of README.md are not true");
        if (wrong != 0) System.exit(1);
    }

    private static String block(String text, String kind) {
        Matcher found = Pattern.compile("(?s)```" + kind + "\n(.*?)```").matcher(text);
        return found.find() ? found.group(1) : "";
    }

    private static Set<String> all(String pattern, String text) {
        Set<String> found = new TreeSet<>();
        Matcher m = Pattern.compile(pattern).matcher(text);
        while (m.find()) found.add(m.group(1));
        return found;
    }

    private static Set<String> testsThereAre() throws IOException {
        try (Stream<Path> files = Files.list(Path.of("src/test/java"))) {
            return files.map(f -> f.getFileName().toString().replace(".java", "")).collect(Collectors.toCollection(TreeSet::new));
        }
    }

    private static void filesAreThere(String readme) {
        for (String path : all("`((?:\\.\\./shared/|src/|\\.ci/)[\\w./]+|NOTES\\.md)`", readme)) {
            due(path + " is there", new File(path).exists(), true);
        }
    }

    /** What the program prints when it is compiled as it stands on the page. */
    private static String printed(String program) throws Exception {
        Path room = Files.createTempDirectory("readme");
        try {
            Path file = Files.writeString(room.resolve("MarketDay.java"), program);
            int failed = ToolProvider.getSystemJavaCompiler().run(null, null, null, "-d", room.toString(),
                "-cp", System.getProperty("java.class.path"), file.toString());
            return failed != 0 ? "it does not compile" : run(room);
        } finally {
            remove(room);
        }
    }

    private static String run(Path room) throws Exception {
        PrintStream before = System.out;
        ByteArrayOutputStream heard = new ByteArrayOutputStream();
        try (URLClassLoader loader = new URLClassLoader(new URL[] {room.toUri().toURL()}, ReadmeTest.class.getClassLoader())) {
            System.setOut(new PrintStream(heard, true, StandardCharsets.UTF_8));
            loader.loadClass("MarketDay").getMethod("main", String[].class).invoke(null, (Object) new String[0]);
        } finally {
            System.setOut(before);
        }
        return heard.toString(StandardCharsets.UTF_8).replace("\r\n", "\n");
    }

    private static void remove(Path room) throws IOException {
        try (Stream<Path> files = Files.walk(room)) {
            List<Path> deepestFirst = files.sorted(Comparator.reverseOrder()).collect(Collectors.toList());
            for (Path file : deepestFirst) Files.delete(file);
        }
    }
}
