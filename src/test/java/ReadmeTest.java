import java.io.IOException;
import java.lang.reflect.Method;
import java.lang.reflect.Modifier;
import java.nio.file.Files;
import java.nio.file.Path;
import java.util.ArrayList;
import java.util.Comparator;
import java.util.List;
import java.util.Set;
import java.util.TreeSet;
import java.util.regex.Matcher;
import java.util.regex.Pattern;
import java.util.stream.Collectors;
import java.util.stream.Stream;

/** What README.md says of the class's use and of its tests is so when it is done as it stands there. */
public final class ReadmeTest {
    private static final Path TESTS = Path.of("src", "test", "java");
    private static final Check CHECK = new Check();

    public static void main(String[] args) throws IOException, InterruptedException {
        String readme = Files.readString(Path.of("README.md"));
        everyCallIsNamed(readme);
        everyTestIsNamed(readme);
        Path folder = Files.createTempDirectory("readme");
        try {
            copySources(folder);
            theExamplePrintsWhatStandsThere(readme, folder);
            theTestsAreRunAsStandsThere(readme, folder);
        } finally {
            remove(folder);
        }
        CHECK.end();
    }

    private static void everyCallIsNamed(String readme) {
        for (Method method : TypeFoundry.class.getDeclaredMethods()) {
            if (Modifier.isPublic(method.getModifiers())) {
                CHECK.yes(method.getName() + " is told", readme.contains("| `" + method.getName() + "("));
                CHECK.yes(method.getName() + " is shown", readme.contains("foundry." + method.getName() + "("));
            }
        }
    }

    private static void everyTestIsNamed(String readme) throws IOException {
        Set<String> named = new TreeSet<>();
        Matcher names = Pattern.compile("`(\\w+Test)`").matcher(readme);
        while (names.find()) {
            named.add(names.group(1));
        }
        try (Stream<Path> files = Files.list(TESTS)) {
            Set<String> there = files.map(file -> file.getFileName().toString())
                .filter(name -> name.endsWith("Test.java"))
                .map(name -> name.substring(0, name.length() - ".java".length()))
                .collect(Collectors.toCollection(TreeSet::new));
            CHECK.note("the tests named", named.toString(), there.toString());
        }
    }

    private static void theExamplePrintsWhatStandsThere(String readme, Path folder)
            throws IOException, InterruptedException {
        Files.writeString(folder.resolve("Example.java"), blocks(readme, "java").get(0));
        CHECK.note("the example", printed(blocks(readme, "sh").get(0), folder), blocks(readme, "text").get(0));
    }

    /** Not .ci/run itself, which runs this test. */
    private static void theTestsAreRunAsStandsThere(String readme, Path folder)
            throws IOException, InterruptedException {
        List<String> shell = blocks(readme, "sh");
        CHECK.due("places with lines to run", shell.size(), 3);
        CHECK.note("all tests", shell.get(1), ".ci/run\n");
        CHECK.yes(".ci/run can be run", Files.isExecutable(Path.of(".ci", "run")));
        String of = printed(shell.get(2), folder);
        CHECK.yes("one test alone: " + of, of.endsWith(" answers, 0 wrong\n"));
    }

    /** What stands between ```kind and ```. */
    private static List<String> blocks(String readme, String kind) {
        List<String> found = new ArrayList<>();
        Matcher block = Pattern.compile("(?ms)^```" + kind + "\n(.*?)^```$").matcher(readme);
        while (block.find()) {
            found.add(block.group(1));
        }
        return found;
    }

    private static String printed(String lines, Path folder) throws IOException, InterruptedException {
        Process shell = new ProcessBuilder("sh", "-e", "-c", lines).directory(folder.toFile())
            .redirectError(ProcessBuilder.Redirect.INHERIT).start();
        shell.getOutputStream().close();
        String text = new String(shell.getInputStream().readAllBytes());
        CHECK.due("the exit code of " + lines, shell.waitFor(), 0);
        return text;
    }

    private static void copySources(Path folder) throws IOException {
        try (Stream<Path> files = Files.walk(Path.of("src"))) {
            for (Path file : (Iterable<Path>) files::iterator) {
                Files.copy(file, folder.resolve(file));
            }
        }
    }

    private static void remove(Path folder) throws IOException {
        try (Stream<Path> files = Files.walk(folder)) {
            for (Path file : (Iterable<Path>) files.sorted(Comparator.reverseOrder())::iterator) {
                Files.delete(file);
            }
        }
    }
}
