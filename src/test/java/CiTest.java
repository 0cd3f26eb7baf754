import java.io.IOException;
import java.nio.file.Files;
import java.nio.file.Path;

/** .ci/run, as README.md tells it, in a small project: it runs what it must and refuses what it must. */
public final class CiTest {
    private static final String RIGHT = "public final class NAME { public static void main(String[] a) { new FaceCoins(); } }";
    private static final String WRONG = "public final class NAME { public static void main(String[] a) { System.exit(1); } }";

    private final Path project;
    private final Path shared;

    private CiTest(Path room) throws IOException {
        project = room.resolve("main");
        shared = room.resolve("shared/tests");
        Rooms.copy(Path.of("src/main"), project.resolve("src/main"));
        Rooms.copy(Path.of(".ci"), project.resolve(".ci"));
        Files.createDirectories(project.resolve("src/test/java"));
        Files.createDirectories(shared);
    }

    public static void main(String[] args) throws IOException, InterruptedException {
        Path room = Files.createTempDirectory("ci");
        try {
            new CiTest(room).look();
        } finally {
            Rooms.remove(room);
        }
        Desk.close();
    }

    private void look() throws IOException, InterruptedException {
        Path own = project.resolve("src/test/java/OwnTest.java");
        Path common = shared.resolve("Common.java");

        write(own, "OwnTest", RIGHT);
        write(common, "Common", RIGHT);
        ends("all tests pass", 0, "2 passed, 0 failed");

        write(own, "OwnTest", WRONG);
        ends("a test of the project fails", 1, "1 passed, 1 failed");

        write(own, "OwnTest", RIGHT);
        write(common, "Common", WRONG);
        ends("a test under ../shared/tests fails", 1, "1 passed, 1 failed");

        write(common, "Common", "no Java");
        ends("a test can't be compiled", 1, "1 passed, 1 failed");

        Files.delete(common);
        ends("there is no test under ../shared/tests", 1, "1 passed, 1 failed");

        Files.writeString(project.resolve("src/main/java/FaceCoins.java"), "no Java");
        ends("the class can't be compiled", 1, "error");
    }

    private static void write(Path file, String name, String text) throws IOException {
        Files.writeString(file, text.replace("NAME", name));
    }

    private void ends(String what, int code, String printed) throws IOException, InterruptedException {
        Desk.due(what + ": exit code", Rooms.run(project, ".ci/run"), code);
        Desk.yes(what + ": '" + printed + "' is printed, not " + Rooms.latest, Rooms.latest.contains(printed));
    }
}
