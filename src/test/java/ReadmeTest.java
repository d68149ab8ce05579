import java.io.IOException;
import java.nio.charset.StandardCharsets;
import java.nio.file.Files;
import java.nio.file.Path;
import java.util.ArrayList;
import java.util.Comparator;
import java.util.List;
import java.util.stream.Stream;

// README.md's words hold: its program and its commands are run as they stand there, in a directory that has nothing but
// the sources; it names each call of the class, and each test. Run in the project's directory, as .ci/run does.
public final class ReadmeTest {
    private static final Check c = new Check("ReadmeTest");
    private static final Path SOURCES = Path.of("src").toAbsolutePath();

    public static void main(String[] args) throws IOException, InterruptedException {
        String text = Files.readString(Path.of("README.md"));
        Path place = Files.createTempDirectory("readme");
        try {
            Files.createSymbolicLink(place.resolve("src"), SOURCES);
            programPrintsWhatItSays(text, place);
            moreRunsOfTheModel(text, place);
        } finally {
            remove(place);
        }
        ciCanBeRun(text);
        namesEachCall(text);
        namesEachTest(text);
        c.end();
    }

    // what stands between ``` and ```, of one kind
    private static List<String> blocks(String text, String kind) {
        List<String> blocks = new ArrayList<>();
        StringBuilder block = null;
        for (String line : text.lines().toList()) {
            if (block == null && line.equals("```" + kind)) {
                block = new StringBuilder();
            } else if (block != null && line.equals("```")) {
                blocks.add(block.toString());
                block = null;
            } else if (block != null) {
                block.append(line).append('\n');
            }
        }
        return blocks;
    }

    private static String outputOf(String commands, Path place) throws IOException, InterruptedException {
        Process process = new ProcessBuilder("sh", "-e", "-c", commands).directory(place.toFile())
            .redirectError(ProcessBuilder.Redirect.INHERIT).start();
        String output = new String(process.getInputStream().readAllBytes(), StandardCharsets.UTF_8);
        c.same("the exit code of " + commands, process.waitFor(), 0);
        return output;
    }

    private static void programPrintsWhatItSays(String text, Path place) throws IOException, InterruptedException {
        Files.writeString(place.resolve("Yours.java"), blocks(text, "java").get(0));
        String got = outputOf(blocks(text, "sh").get(0), place);
        String due = blocks(text, "text").get(0);
        c.count(got.equals(due), "the program printed " + got + ", due is " + due);
    }

    // as many runs as README.md has take minutes, so here there are two
    private static void moreRunsOfTheModel(String text, Path place) throws IOException, InterruptedException {
        String commands = blocks(text, "sh").get(2);
        c.count(commands.contains("ModelTest 2500 "), "there are more runs of ModelTest");
        String got = outputOf(commands.replace("ModelTest 2500 ", "ModelTest 2 "), place);
        c.count(got.endsWith(" passed, 0 failed\n"), "two runs of ModelTest printed " + got);
    }

    private static void ciCanBeRun(String text) {
        String command = blocks(text, "sh").get(1).strip();
        c.count(command.equals(".ci/run"), "the tests are run by " + command);
        c.count(Files.isExecutable(Path.of(command)), command + " can be run");
    }

    private static void namesEachCall(String text) {
        for (var method : Switchyard.class.getMethods()) {
            if (method.getDeclaringClass() == Switchyard.class) {
                c.count(text.contains("`" + method.getName() + "`"), "no word on " + method.getName());
            }
        }
    }

    private static void namesEachTest(String text) throws IOException {
        try (Stream<Path> files = Files.list(SOURCES.resolve("test/java"))) {
            for (Path file : files.toList()) {
                String name = file.getFileName().toString().replace(".java", "");
                c.count(!name.endsWith("Test") || text.contains("`" + name + "`"), "no word on " + name);
            }
        }
    }

    // a symbolic link is removed, not what it leads to
    private static void remove(Path place) throws IOException {
        try (Stream<Path> all = Files.walk(place)) {
            for (Path path : all.sorted(Comparator.reverseOrder()).toList()) {
                Files.delete(path);
            }
        }
    }
}
