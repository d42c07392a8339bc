import java.io.File;
import java.io.IOException;
import java.lang.reflect.Method;
import java.lang.reflect.Modifier;
import java.nio.charset.StandardCharsets;
import java.nio.file.Files;
import java.nio.file.Path;
import java.util.Comparator;
import java.util.List;
import java.util.Set;
import java.util.TreeSet;
import java.util.regex.Matcher;
import java.util.regex.Pattern;
import java.util.stream.Collectors;
import java.util.stream.Stream;

/** What README.md shows: its commands, the example and what it prints, the calls, the constants and the tests. */
public final class ReadmeTest {
    private static final Path SOURCE = Path.of("src/main/java/CostumeStock.java");
    private static final Path EXAMPLE = Path.of("src/example/java/Example.java");
    private static final Path TESTS = Path.of("src/test/java");

    public static void main(String[] args) throws IOException, InterruptedException {
        String page = Files.readString(Path.of("README.md"));
        Due.holds("the example on the page is " + EXAMPLE, block(page, "java").equals(Files.readString(EXAMPLE)));
        Due.holds("the example prints what the page shows", printed(block(page, "sh")).equals(block(page, "text")));
        checkCalls(page);
        checkConstants(page);
        checkTests(page);
        Due.finish("ReadmeTest");
    }

    /** The first block of a language. */
    private static String block(String page, String language) {
        Matcher block = Pattern.compile("(?s)```" + language + "\n(.*?)```\n").matcher(page);
        return block.find() ? block.group(1) : "";
    }

    /** Runs the commands as they are shown, where there is nothing but the two files that they name. */
    private static String printed(String commands) throws IOException, InterruptedException {
        Path folder = Files.createTempDirectory("readme");
        try {
            for (Path file : List.of(SOURCE, EXAMPLE)) {
                Files.createDirectories(folder.resolve(file).getParent());
                Files.copy(file, folder.resolve(file));
            }
            Process shell = new ProcessBuilder("bash", "-ec", commands).directory(folder.toFile())
                    .redirectError(ProcessBuilder.Redirect.INHERIT).start();
            String output = new String(shell.getInputStream().readAllBytes(), StandardCharsets.UTF_8);
            Due.is("the commands on the page: their exit code", shell.waitFor(), 0);
            return output.replace(System.lineSeparator(), "\n");
        } finally {
            try (Stream<Path> files = Files.walk(folder)) {
                files.sorted(Comparator.reverseOrder()).map(Path::toFile).forEach(File::delete);
            }
        }
    }

    private static void checkCalls(String page) {
        Set<String> face = new TreeSet<>();
        for (Method method : CostumeStock.class.getDeclaredMethods()) {
            if (Modifier.isPublic(method.getModifiers())) {
                face.add(method.getName() + " " + method.getParameterCount());
            }
        }
        Set<String> shown = new TreeSet<>();
        Matcher call = Pattern.compile("(?m)^\\| `(\\w+)\\(([^)]*)\\)` \\|").matcher(page);
        while (call.find()) {
            String arguments = call.group(2);
            int number = arguments.isEmpty() ? 0 : arguments.split(", ").length;
            Due.holds("one row alone for " + call.group(1), shown.add(call.group(1) + " " + number));
        }
        Due.holds("the calls on the page, " + shown + ", are those of the class, " + face, shown.equals(face));
    }

    private static void checkConstants(String page) {
        String row = "| `CostumeStock.%s` | %d |";
        Due.holds("INVALID_ARGUMENT", page.contains(row.formatted("INVALID_ARGUMENT", CostumeStock.INVALID_ARGUMENT)));
        Due.holds("ILLEGAL_STATE", page.contains(row.formatted("ILLEGAL_STATE", CostumeStock.ILLEGAL_STATE)));
        Due.holds("CAPACITY_EXCEEDED",
                page.contains(row.formatted("CAPACITY_EXCEEDED", CostumeStock.CAPACITY_EXCEEDED)));
        Due.holds("NONE", page.contains(row.formatted("NONE", CostumeStock.NONE)));
    }

    private static void checkTests(String page) throws IOException {
        try (Stream<Path> files = Files.list(TESTS)) {
            Set<String> there = files.map(file -> file.getFileName().toString())
                    .filter(name -> name.endsWith("Test.java")).map(name -> name.replace(".java", ""))
                    .collect(Collectors.toCollection(TreeSet::new));
            Set<String> shown = Pattern.compile("(?m)^\\| (\\w+Test) \\|").matcher(page).results()
                    .map(row -> row.group(1)).collect(Collectors.toCollection(TreeSet::new));
            Due.holds("the tests on the page, " + shown + ", are those that there are, " + there, shown.equals(there));
        }
    }
}
