import java.io.IOException;
import java.nio.file.Files;
import java.nio.file.Path;
import java.util.ArrayList;
import java.util.List;
import java.util.regex.Matcher;
import java.util.regex.Pattern;

/** What README.md shows of the use of the class compiles and answers as it says; its way to run a test runs it. */
public final class ReadmeTest {
    private static final Pattern SHOWN =
        Pattern.compile("\\s*(?:int (\\w) = )?(x\\.\\w+\\(.*\\));\\s*// (-?\\d+|true|false|NoSuchElementException)\\b.*");

    public static void main(String[] args) throws IOException, InterruptedException {
        String readme = Files.readString(Path.of("README.md"));
        List<String> java = blocks(readme, "java");
        List<String> shell = blocks(readme, "sh");
        Desk.due("blocks of Java", java.size(), 2);
        Desk.due("blocks of shell", shell.size(), 1);
        Path room = Files.createTempDirectory("readme");
        try {
            if (java.size() == 2) use(room, java.get(0), java.get(1));
            if (shell.size() == 1) singleTest(room, shell.get(0));
            everyFileThere(readme);
        } finally {
            Rooms.remove(room);
        }
        Desk.close();
    }

    private static List<String> blocks(String readme, String language) {
        List<String> found = new ArrayList<>();
        Matcher block = Pattern.compile("(?ms)^```" + language + "\n(.*?)^```$").matcher(readme);
        while (block.find()) found.add(block.group(1));
        return found;
    }

    private static void use(Path room, String helpers, String statements) throws IOException, InterruptedException {
        StringBuilder made = new StringBuilder("public final class Example {\n" + helpers);
        made.append("static int wrong = 0;\n");
        made.append("static void due(String line, Object got, String want) {\n");
        made.append("if (!String.valueOf(got).equals(want)) { wrong++; System.out.println(line + \" answered \" + got); } }\n");
        made.append("public static void main(String[] args) {\n");
        int answers = 0;
        for (String line : statements.lines().toList()) {
            Matcher shown = SHOWN.matcher(line);
            boolean answered = shown.matches();
            if (answered) answers++;
            else Desk.no("an answer is told of each call, not of '" + line + "'", line.startsWith("x.") || line.contains("= x."));
            made.append(answered ? checked(shown) : line).append('\n');
        }
        made.append("System.exit(wrong == 0 ? 0 : 1); } }\n");
        Desk.yes("answers that are shown: " + answers, answers > 50);
        Path example = room.resolve("Example.java");
        Files.writeString(example, made);
        String main = Path.of("src/main/java/FaceCoins.java").toAbsolutePath().toString();
        Desk.due("javac of the use", Rooms.run(room, "javac", "-d", "classes", main, "Example.java"), 0);
        Desk.due("the use", Rooms.run(room, "java", "-cp", "classes", "Example"), 0);
        Desk.yes("all answers are as README.md says: " + Rooms.latest, Rooms.latest.isEmpty());
    }

    private static String checked(Matcher shown) {
        String name = shown.group(1);
        String call = shown.group(2);
        String want = shown.group(3);
        String told = call.replace("\\", "\\\\").replace("\"", "\\\"");
        if (want.startsWith("No")) {
            return "try { due(\"" + told + "\", " + call + ", \"" + want + "\"); }"
                + " catch (java.util.NoSuchElementException e) { }";
        }
        String answer = name == null ? call : name;
        return (name == null ? "" : "int " + name + " = " + call + "; ") + "due(\"" + told + "\", " + answer + ", \"" + want + "\");";
    }

    private static void singleTest(Path room, String commands) throws IOException, InterruptedException {
        Rooms.copy(Path.of("src"), room.resolve("src"));
        Desk.due("the way to run a single test", Rooms.run(room, "sh", "-e", "-c", commands), 0);
        String told = Rooms.latest;
        Desk.yes("it tells how many answers it looked at: " + told, told.contains("answers looked at, 0 not as due"));
    }

    /** Each class of the tests that README.md tells is there, and each one that is there is told. */
    private static void everyFileThere(String readme) throws IOException {
        Matcher name = Pattern.compile("`(\\w+Test)`").matcher(readme);
        while (name.find()) {
            Desk.yes(name.group(1) + " is there", Files.exists(Path.of("src/test/java", name.group(1) + ".java")));
        }
        Desk.yes(".ci/run can be run", Files.isExecutable(Path.of(".ci/run")));
    }
}
