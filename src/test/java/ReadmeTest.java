import java.io.File;
import java.io.IOException;
import java.nio.charset.StandardCharsets;
import java.nio.file.Files;
import java.nio.file.Path;
import java.util.ArrayList;
import java.util.Comparator;
import java.util.List;
import java.util.Set;
import java.util.TreeSet;
import java.util.regex.Matcher;
import java.util.regex.Pattern;
import java.util.stream.Stream;

/** README.md holds: each of its commands runs as it stands there, in a clean copy, and the example prints what it says. */
public final class ReadmeTest {
    // Set for the commands, since one of them runs all tests, this one too.
    private static final String INSIDE = "SKYCUTS_README";
    private static final String ALL_TESTS = "bash .ci/run";

    private static final List<String> commands = new ArrayList<>();
    private static String latest = "";
    private static int texts = 0;
    private static int wrong = 0;

    private static void must(boolean is, String what) {
        if (!is) {
            wrong++;
            System.out.println("ReadmeTest: " + what);
        }
    }

    private static boolean isOfTheProject(Path path) {
        for (Path part : path) {
            if (Set.of(".git", "out").contains(part.toString())) {
                return false;
            }
        }
        return true;
    }

    /** The project's files and the shared folder, beside one another as they are here. */
    private static Path copyInto(Path room) throws IOException {
        Path copy = room.resolve("main");
        try (Stream<Path> files = Files.walk(Path.of(""))) {
            for (Path file : files.filter(ReadmeTest::isOfTheProject).toList()) {
                Path to = copy.resolve(file.toString());
                if (Files.isDirectory(file)) {
                    Files.createDirectories(to);
                } else {
                    Files.copy(file, to);
                }
            }
        }
        Files.createSymbolicLink(room.resolve("shared"), Path.of("..", "shared").toRealPath());
        return copy;
    }

    private static void run(String command, Path where) throws IOException, InterruptedException {
        commands.add(command);
        File told = where.resolveSibling("told").toFile();
        ProcessBuilder made = new ProcessBuilder("bash", "-c", command);
        made.directory(where.toFile()).redirectErrorStream(true).redirectOutput(told);
        made.environment().put(INSIDE, "1");
        int code = made.start().waitFor();
        latest = Files.readString(told.toPath(), StandardCharsets.UTF_8);
        must(code == 0, "\"" + command + "\" ended with " + code + " and printed\n" + latest);
    }

    private static void follow(String readme, Path where) throws IOException, InterruptedException {
        Matcher blocks = Pattern.compile("(?ms)^```(\\w+)\n(.*?)^```$").matcher(readme);
        while (blocks.find()) {
            String text = blocks.group(2);
            switch (blocks.group(1)) {
                case "java" -> Files.writeString(where.resolve("Mine.java"), text);
                case "sh" -> {
                    for (String line : text.lines().toList()) {
                        run(line, where);
                    }
                }
                default -> {
                    texts++;
                    must(latest.equals(text), "the example prints\n" + latest + "and README.md says\n" + text);
                }
            }
        }
    }

    private static void namesAllTests(String readme) throws IOException {
        try (Stream<Path> tests = Files.list(Path.of("src", "test", "java"))) {
            for (Path test : tests.toList()) {
                String name = test.getFileName().toString().replace(".java", "");
                must(Pattern.compile("\\b" + name + "\\b").matcher(readme).find(), "README.md does not name " + name);
            }
        }
    }

    private static void namesAllCalls(String readme) {
        Set<String> missing = new TreeSet<>();
        for (java.lang.reflect.Method call : SkyCuts.class.getMethods()) {
            boolean own = call.getDeclaringClass() == SkyCuts.class;
            if (own && !Pattern.compile("(?m)^\\|.*\\b" + call.getName() + "\\b").matcher(readme).find()) {
                missing.add(call.getName());
            }
        }
        must(missing.isEmpty(), "README.md has no row for " + missing);
    }

    private static void remove(Path room) throws IOException {
        try (Stream<Path> files = Files.walk(room)) {
            for (Path file : files.sorted(Comparator.reverseOrder()).toList()) {
                Files.delete(file);
            }
        }
    }

    public static void main(String[] args) throws Exception {
        if (System.getenv(INSIDE) != null) {
            System.out.println("ReadmeTest: left to the run that README.md's commands are tried by");
            return;
        }
        String readme = Files.readString(Path.of("README.md"), StandardCharsets.UTF_8);
        namesAllTests(readme);
        namesAllCalls(readme);
        Path room = Files.createTempDirectory("readme");
        try {
            follow(readme, copyInto(room));
        } finally {
            remove(room);
        }
        must(commands.contains(ALL_TESTS), "README.md does not say " + ALL_TESTS);
        must(texts == 1, "README.md does not say once what the example prints");
        System.out.println("ReadmeTest: " + commands.size() + " commands, " + wrong + " wrong");
        if (wrong > 0) {
            System.exit(1);
        }
    }
}
