import java.io.File;
import java.io.IOException;
import java.nio.charset.StandardCharsets;
import java.nio.file.Files;
import java.nio.file.Path;
import java.util.Comparator;
import java.util.List;
import java.util.stream.Stream;

/** Directories of their own, in which tests run commands. */
final class Rooms {
    /** What the latest command printed. */
    static String latest = "";

    private Rooms() {
    }

    /** The exit code of a command in a directory. */
    static int run(Path room, String... command) throws IOException, InterruptedException {
        Path printed = Files.createTempFile("printed", ".txt");
        Process process = new ProcessBuilder(command).directory(room.toFile()).redirectErrorStream(true)
            .redirectInput(new File("/dev/null")).redirectOutput(printed.toFile()).start();
        int code = process.waitFor();
        latest = Files.readString(printed, StandardCharsets.ISO_8859_1);
        Files.delete(printed);
        return code;
    }

    static void copy(Path from, Path to) throws IOException {
        for (Path path : walk(from)) {
            Path there = to.resolve(from.relativize(path).toString());
            if (Files.isDirectory(path)) Files.createDirectories(there);
            else Files.copy(path, there);
        }
    }

    static void remove(Path room) throws IOException {
        List<Path> all = walk(room);
        for (int i = all.size() - 1; i >= 0; i--) Files.delete(all.get(i));
    }

    private static List<Path> walk(Path from) throws IOException {
        try (Stream<Path> paths = Files.walk(from)) {
            return paths.sorted(Comparator.naturalOrder()).toList();
        }
    }
}
