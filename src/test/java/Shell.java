import java.io.File;
import java.io.IOException;
import java.nio.charset.StandardCharsets;
import java.nio.file.Files;
import java.nio.file.Path;
import java.util.ArrayList;
import java.util.Collections;
import java.util.List;
import java.util.stream.Stream;

/** A command that a shell does in a folder, and what came of it. */
final class Shell {
    private final String command;
    private final Process process;
    private final Path output;

    private Shell(String command, Process process, Path output) {
        this.command = command;
        this.process = process;
        this.output = output;
    }

    /** Starts the command; more of them may be under way at once. What it prints goes to a file, so that it never waits. */
    static Shell start(Path folder, String command) throws IOException {
        Path output = Files.createTempFile("output", ".txt");
        ProcessBuilder builder = new ProcessBuilder("sh", "-c", command);
        builder.directory(folder.toFile());
        builder.redirectErrorStream(true).redirectInput(new File("/dev/null")).redirectOutput(output.toFile());
        return new Shell(command, builder.start(), output);
    }

    /** Waits for the end of the command, which must have the due exit code, and answers what it printed. */
    String due(int exit) throws IOException, InterruptedException {
        int got = process.waitFor();
        String printed = Files.readString(output, StandardCharsets.ISO_8859_1).trim();
        Files.delete(output);
        Check.due("the exit code of " + command, got, exit);
        if (got != exit) {
            System.out.println(printed);
        }
        return printed;
    }

    static String lastLine(String printed) {
        return printed.substring(printed.lastIndexOf('\n') + 1);
    }

    private static List<Path> all(Path folder) throws IOException {
        try (Stream<Path> paths = Files.walk(folder)) {
            return new ArrayList<>(paths.toList());
        }
    }

    /** Copies what the files say, but not that they may only be read, as those of ../shared. */
    static void copy(Path from, Path to) throws IOException {
        for (Path path : all(from)) {
            Path place = to.resolve(from.relativize(path).toString());
            if (Files.isDirectory(path)) {
                Files.createDirectories(place);
            } else {
                Files.createDirectories(place.toAbsolutePath().getParent());
                Files.write(place, Files.readAllBytes(path));
            }
        }
    }

    static void write(Path file, String text) throws IOException {
        Files.createDirectories(file.getParent());
        Files.writeString(file, text);
    }

    /** Puts the script that CI runs into a project. */
    static void copyScript(Path project) throws IOException {
        Path script = project.resolve(".ci").resolve("run");
        Files.createDirectories(script.getParent());
        Files.write(script, Files.readAllBytes(Path.of(".ci", "run")));
        script.toFile().setExecutable(true);
    }

    static void delete(Path folder) throws IOException {
        List<Path> paths = all(folder);
        Collections.reverse(paths);
        for (Path path : paths) {
            Files.delete(path);
        }
    }
}
