import java.io.File;
import java.io.IOException;
import java.nio.charset.StandardCharsets;
import java.nio.file.Files;
import java.nio.file.Path;
import java.nio.file.Paths;
import java.util.ArrayList;
import java.util.Comparator;
import java.util.List;
import java.util.stream.Collectors;
import java.util.stream.Stream;

/** README.md followed word for word in a folder of its own: its program is saved, its commands run, what they print compared. */
public final class ReadmeTest extends Kit {
    private static final String[] KINDS = {"java", "sh", "text", "sh"};

    public static void main(String[] args) throws IOException, InterruptedException {
        List<String> kinds = new ArrayList<>();
        List<String> blocks = new ArrayList<>();
        readBlocks(kinds, blocks);
        about("README.md has a program, how to run it, what it prints, how to run a test");
        due("its blocks " + kinds, kinds.equals(List.of(KINDS)), true);
        Path folder = Files.createTempDirectory("readme");
        try {
            if (kinds.equals(List.of(KINDS))) {
                follow(folder, blocks);
            }
        } finally {
            remove(folder);
        }
        about(".ci/run can be run");
        due("it is there, and executable", new File(".ci/run").canExecute(), true);
        finish("readme");
    }

    private static void readBlocks(List<String> kinds, List<String> blocks) throws IOException {
        StringBuilder block = null;
        for (String line : Files.readAllLines(Paths.get("README.md"), StandardCharsets.UTF_8)) {
            if (block == null && line.startsWith("```")) {
                kinds.add(line.substring(3));
                block = new StringBuilder();
            } else if (line.equals("```")) {
                blocks.add(block.toString());
                block = null;
            } else if (block != null) {
                block.append(line).append('\n');
            }
        }
    }

    private static void follow(Path folder, List<String> blocks) throws IOException, InterruptedException {
        copy(Paths.get("src/main/java"), folder.resolve("src/main/java"));
        copy(Paths.get("src/test/java"), folder.resolve("src/test/java"));
        Files.write(folder.resolve("Show.java"), blocks.get(0).getBytes(StandardCharsets.UTF_8));
        about("the program of README.md");
        StringBuilder printed = new StringBuilder();
        due("exit code", run(folder, blocks.get(1), printed), 0);
        due("it prints what is told:\n" + printed, printed.toString().equals(blocks.get(2)), true);
        about("a test run as README.md says");
        printed.setLength(0);
        due("exit code", run(folder, blocks.get(3), printed), 0);
        due("it prints its tally: " + printed, printed.toString().endsWith(", 0 wrong\n"), true);
    }

    private static void copy(Path from, Path to) throws IOException {
        Files.createDirectories(to);
        try (Stream<Path> files = Files.list(from)) {
            for (Path file : files.collect(Collectors.toList())) {
                Files.copy(file, to.resolve(file.getFileName()));
            }
        }
    }

    /** With TMPDIR in the folder, so that what the commands leave there goes with it. */
    private static int run(Path folder, String commands, StringBuilder printed) throws IOException, InterruptedException {
        ProcessBuilder shell = new ProcessBuilder("bash", "-e", "-c", commands);
        shell.directory(folder.toFile());
        shell.environment().put("TMPDIR", folder.toString());
        shell.redirectErrorStream(true);
        Process process = shell.start();
        process.getOutputStream().close();
        printed.append(new String(process.getInputStream().readAllBytes(), StandardCharsets.UTF_8));
        return process.waitFor();
    }

    private static void remove(Path folder) throws IOException {
        try (Stream<Path> files = Files.walk(folder)) {
            for (Path file : files.sorted(Comparator.reverseOrder()).collect(Collectors.toList())) {
                Files.delete(file);
            }
        }
    }
}
