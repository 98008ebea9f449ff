import java.io.IOException;
import java.lang.reflect.Field;
import java.lang.reflect.Method;
import java.lang.reflect.Modifier;
import java.nio.file.Files;
import java.nio.file.Path;
import java.util.ArrayList;
import java.util.Comparator;
import java.util.List;
import java.util.regex.Matcher;
import java.util.regex.Pattern;
import java.util.stream.Stream;

/** What README.md tells: its commands work as they stand there, its example prints what it says. Run from the root. */
final class ReadmeTest {
    private static final Due DUE = new Due("ReadmeTest");
    private static final Path SOURCES = Path.of("src");
    // This command runs this test, so it is looked for alone.
    private static final String ALL_TESTS = ".ci/run";

    public static void main(String[] args) throws IOException, InterruptedException {
        String readme = Files.readString(Path.of("README.md"));
        faceIsTold(readme);
        testsAreTold(readme);
        exampleStands(readme);
        commandsWork(readme);
        DUE.end();
    }

    private static List<String> blocks(String readme, String kind) {
        List<String> found = new ArrayList<>();
        Matcher block = Pattern.compile("(?ms)^```" + kind + "\n(.*?)^```$").matcher(readme);
        while (block.find()) {
            found.add(block.group(1));
        }
        return found;
    }

    private static void faceIsTold(String readme) {
        for (Method m : RayGround.class.getDeclaredMethods()) {
            if (Modifier.isPublic(m.getModifiers())) {
                DUE.holds("README tells of " + m.getName(), readme.contains("\n| `" + m.getName() + "("));
            }
        }
        for (Field f : RayGround.class.getDeclaredFields()) {
            if (Modifier.isPublic(f.getModifiers())) {
                try {
                    String row = "\n| `" + f.getName() + "` | " + f.getInt(null) + " |";
                    DUE.holds("README tells what " + f.getName() + " is", readme.contains(row));
                } catch (IllegalAccessException e) {
                    DUE.holds(f.getName() + " can be read", false);
                }
            }
        }
    }

    private static void testsAreTold(String readme) throws IOException {
        try (Stream<Path> files = Files.list(SOURCES.resolve("test/java"))) {
            for (Path file : files.toList()) {
                String name = file.getFileName().toString().replace(".java", "");
                DUE.holds("README tells of " + name, Pattern.compile("\\b" + name + "\\b").matcher(readme).find());
            }
        }
    }

    private static void exampleStands(String readme) throws IOException {
        String example = Files.readString(SOURCES.resolve("test/java/Example.java"));
        DUE.holds("README shows Example.java as it is", blocks(readme, "java").equals(List.of(example)));
    }

    // In a copy, so that nothing is left behind where the project lies.
    private static void commandsWork(String readme) throws IOException, InterruptedException {
        Path room = Files.createTempDirectory("readme");
        Path root = room.resolve("main");
        copy(SOURCES, root.resolve("src"));
        Files.copy(Path.of("README.md"), root.resolve("README.md"));
        Files.createSymbolicLink(room.resolve("shared"), Path.of("../shared").toRealPath());
        int run = 0;
        for (String block : blocks(readme, "sh")) {
            for (String command : block.split("\n")) {
                run++;
                tryCommand(root, command, blocks(readme, "text"));
            }
        }
        DUE.holds("README names how to run the example and the tests", run > 3);
        remove(room);
    }

    private static void tryCommand(Path root, String command, List<String> printed)
        throws IOException, InterruptedException {
        if (command.equals(ALL_TESTS)) {
            DUE.holds(command + " can be run", Files.isExecutable(Path.of(ALL_TESTS)));
            return;
        }
        Path heard = root.resolve("heard");
        Process process = new ProcessBuilder("bash", "-c", command).directory(root.toFile())
            .redirectErrorStream(true).redirectOutput(heard.toFile()).start();
        DUE.is(command + " ends with", process.waitFor(), 0);
        if (command.endsWith(" Example")) {
            DUE.holds("README tells what the example prints", printed.equals(List.of(Files.readString(heard))));
        }
    }

    private static void copy(Path from, Path to) throws IOException {
        try (Stream<Path> files = Files.walk(from)) {
            for (Path file : files.toList()) {
                Path copied = to.resolve(from.relativize(file));
                Files.createDirectories(copied.getParent());
                if (!Files.isDirectory(file)) {
                    Files.copy(file, copied);
                }
            }
        }
    }

    // Files.walk follows no link, so shared itself stays.
    private static void remove(Path room) throws IOException {
        try (Stream<Path> files = Files.walk(room)) {
            for (Path file : files.sorted(Comparator.reverseOrder()).toList()) {
                Files.delete(file);
            }
        }
    }
}
