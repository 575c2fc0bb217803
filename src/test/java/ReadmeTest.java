import java.io.IOException;
import java.nio.file.Files;
import java.nio.file.Path;
import java.util.ArrayList;
import java.util.Comparator;
import java.util.List;
import java.util.TreeSet;
import java.util.regex.Matcher;
import java.util.regex.Pattern;
import java.util.stream.Stream;

/** README.md holds as it stands there: its example answers what it says, its commands run, its table names the tests. */
public final class ReadmeTest extends Kit {
    private static final Pattern ANSWER = Pattern.compile("(?:int|boolean) (\\w+) = .*;\\s+// (\\S+)");

    public static void main(String[] args) throws Exception {
        promise = "README.md";
        Path root = Path.of(System.getProperty("project.root", ".")).toAbsolutePath().normalize();
        String readme = Files.readString(root.resolve("README.md"));
        Path work = Files.createTempDirectory("readme");
        try {
            example(readme, root, work);
            commands(readme, root, work);
            table(readme, root);
        } finally {
            drop(work);
        }
        finish("ReadmeTest");
    }

    /** Makes a program of the first two java blocks, the method and the lines that use it, each told answer compared. */
    private static void example(String readme, Path root, Path work) throws Exception {
        List<String> blocks = blocks(readme, "java");
        due("java blocks", blocks.size(), 2);
        if (blocks.size() != 2) {
            return;
        }
        StringBuilder program = new StringBuilder("public final class Example {\n" + blocks.get(0)
            + "static void same(String name, Object got, String told) {\n"
            + "    if (!told.equals(String.valueOf(got))) {\n"
            + "        System.out.println(name + \" is \" + got + \", told as \" + told);\n"
            + "        System.exit(1);\n    }\n}\npublic static void main(String[] args) {\n");
        int answers = 0;
        for (String line : blocks.get(1).split("\n")) {
            program.append(line).append('\n');
            Matcher answer = ANSWER.matcher(line);
            if (answer.matches()) {
                answers++;
                program.append("same(\"").append(answer.group(1)).append("\", ").append(answer.group(1)).append(", \"")
                    .append(answer.group(2)).append("\");\n");
            }
            due("an answer is told behind: " + line, answer.matches(), line.matches("(int|boolean) .*"));
        }
        due("answers are told", answers > 10, true);
        Path file = work.resolve("Example.java");
        Files.writeString(file, program.append("}\n}\n").toString());
        due("the example", run(root, "javac -d '" + work + "' src/main/java/BitingDoors.java '" + file + "' && java -cp '" + work
            + "' Example"), "0");
    }

    /** Runs each sh block as it stands, but for where it builds. */
    private static void commands(String readme, Path root, Path work) throws Exception {
        List<String> blocks = blocks(readme, "sh");
        due("sh blocks", blocks.size(), 2);
        for (int i = 0; i < blocks.size(); i++) {
            String build = "'" + work.resolve("build" + i) + "'";
            due("commands: " + blocks.get(i), run(root, "set -e\n" + blocks.get(i).replaceAll("\\bbuild\\b", build)), "0");
        }
        due(".ci/run is there and can be run", Files.isExecutable(root.resolve(".ci/run")), true);
    }

    private static void table(String readme, Path root) throws IOException {
        TreeSet<String> told = new TreeSet<>();
        Matcher row = Pattern.compile("(?m)^\\| `(\\w+)` \\|").matcher(readme);
        while (row.find()) {
            told.add(row.group(1) + ".java");
        }
        TreeSet<String> there = new TreeSet<>();
        try (Stream<Path> files = Files.list(root.resolve("src/test/java"))) {
            files.map(file -> file.getFileName().toString()).filter(name -> name.endsWith("Test.java")).forEach(there::add);
        }
        due("the tests in the table", told.toString(), there.toString());
    }

    private static List<String> blocks(String readme, String kind) {
        List<String> blocks = new ArrayList<>();
        Matcher block = Pattern.compile("(?s)```" + kind + "\n(.*?)```").matcher(readme);
        while (block.find()) {
            blocks.add(block.group(1));
        }
        return blocks;
    }

    /** The exit code of a shell's commands; what they print is shown if it is not 0. */
    private static String run(Path root, String commands) throws Exception {
        Process shell = new ProcessBuilder("sh", "-c", commands).directory(root.toFile()).redirectErrorStream(true).start();
        shell.getOutputStream().close();
        String printed = new String(shell.getInputStream().readAllBytes());
        int code = shell.waitFor();
        return code == 0 ? "0" : code + "\n" + printed;
    }

    private static void drop(Path folder) throws IOException {
        List<Path> paths = new ArrayList<>();
        try (Stream<Path> all = Files.walk(folder)) {
            all.sorted(Comparator.reverseOrder()).forEach(paths::add);
        }
        for (Path path : paths) {
            Files.delete(path);
        }
    }
}
